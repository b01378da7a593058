/** Promises 1 to 5: a new object, letter, blank, fault, yard. */
public final class YardTest {
    private static final Check CHECK = new Check("YardTest");

    public static void main(String[] args) {
        newObject();
        withoutYard();
        letters();
        blanks();
        faults();
        yards();
        noYards();
        anotherYard();
        CHECK.end();
    }

    private static void newObject() {
        StiltYard x = new StiltYard();
        CHECK.counts("new", x, 0, 0, 0, 0, 0, 0, 0, 0, 0, 0, 0, 0);
        CHECK.due("new fault()", x.fault(), 0);
        CHECK.due("new yard()", x.yard(), StiltYard.STATE);
        CHECK.due("new blank()", x.blank(), 0);
        CHECK.due("new forget()", x.forget(), 0);
    }

    private static void withoutYard() {
        StiltYard x = Check.page("pppp;");
        CHECK.due("about(0, 0)", x.about(0, 0), StiltYard.UNKNOWN);
        CHECK.due("about(0, 9)", x.about(0, 9), StiltYard.UNKNOWN);
        CHECK.due("as(0, 0)", x.as(0, 0), StiltYard.UNKNOWN);
        CHECK.due("lay(0, 9)", x.lay(0, 9), StiltYard.UNKNOWN);
        CHECK.due("blocks(5)", x.blocks(5), StiltYard.STATE);
        CHECK.due("blocks(0)", x.blocks(0), StiltYard.OUTSIDE);
        CHECK.due("step(0)", x.step(0), StiltYard.STATE);
        CHECK.due("step(4)", x.step(4), StiltYard.OUTSIDE);
        CHECK.due("would(0)", x.would(0), StiltYard.STATE);
        CHECK.due("would(-1)", x.would(-1), StiltYard.OUTSIDE);
        CHECK.due("quick(0)", x.quick(0), StiltYard.STATE);
        CHECK.due("quick(9)", x.quick(9), StiltYard.OUTSIDE);
        CHECK.due("high()", x.high(), StiltYard.STATE);
        CHECK.due("mend(1)", x.mend(1), StiltYard.STATE);
        CHECK.due("mend(-1)", x.mend(-1), StiltYard.OUTSIDE);
        CHECK.due("hear(0, 1, 0, true)", x.hear(0, 1, 0, true), StiltYard.UNKNOWN);
        CHECK.due("hear(0, 9, 0, true)", x.hear(0, 9, 0, true), StiltYard.UNKNOWN);
        CHECK.due("forget()", x.forget(), 0);
        CHECK.due("heights()", x.heights(), StiltYard.STATE);
        CHECK.due("races(1, 0, 0)", x.races(1, 0, 0), StiltYard.STATE);
        CHECK.due("races(0, 0, 0)", x.races(0, 0, 0), StiltYard.OUTSIDE);
        CHECK.due("image()", x.image(), StiltYard.STATE);
        CHECK.due("restore()", x.restore(), StiltYard.STATE);
        CHECK.counts("all refused", x, 0, 0, 0, 0, 0, 0, 0, 0, 0, 5, 0, 0);
    }

    private static void letters() {
        StiltYard x = new StiltYard();
        int[] outside = {31, 127, 0, -1, Integer.MIN_VALUE, Integer.MAX_VALUE};
        for (int code : outside) {
            CHECK.due("letter(" + code + ")", x.letter(code), StiltYard.OUTSIDE);
        }
        CHECK.due("letter(32)", x.letter(32), 1);
        CHECK.due("letter(126)", x.letter(126), 2);
        for (int n = 3; n <= 16; n++) {
            CHECK.due("letter 'p'", x.letter('p'), n);
        }
        CHECK.due("a 17th letter", x.letter('p'), StiltYard.FULL);
        CHECK.due("a 17th letter, outside", x.letter(127), StiltYard.OUTSIDE);
        CHECK.due("count(9)", x.count(9), 16);
        CHECK.due("fault() of a full page", x.fault(), 0);
    }

    private static void blanks() {
        StiltYard x = Check.page("pppp;5");
        CHECK.due("blank()", x.blank(), 6);
        CHECK.due("blank() again", x.blank(), 0);
        CHECK.due("count(9)", x.count(9), 0);
        CHECK.due("yard() of none", x.yard(), StiltYard.STATE);
        CHECK.due("letter behind", x.letter('p'), 1);
        StiltYard full = Check.page("pppppppppppppppp");
        CHECK.due("blank() of a full page", full.blank(), 16);
        CHECK.due("letter behind", full.letter('p'), 1);
    }

    private static void faults() {
        String[] texts = {"", "p", "l", "g", "b", "o", "x", "P", ";", "5", " ", "ppp", "ppp;", "ppp;5", "pp5", "pppp", "pppp;",
            "pppp;1", "pppp;9", "pppp;0", "pppp;a", "pppp;;", "pppp:", "pppp5", "pppp;55", "pppp;5 ", "pppp;0p", "plgbo",
            "plgbox", "plgbo;3", "pppppppppppp", "ppppppppppppp", "pppppppppppp;", "pppppppppppp;7", "pppppppppppp;77",
            "ppppppppppppp;7", "pppppppppppp;p", "pppppppppppp7", "ppxp;5", "ppppp;/", "ppppp;:"};
        int[] want = {0, 1, 1, 1, 1, 1, 0, 0, 0, 0, 0, 3, 3, 3, 2, 4, 5,
            6, 6, 5, 5, 5, 4, 4, 6, 6, 5, 5,
            5, 7, 12, 12, 13, 14, 14,
            12, 13, 12, 2, 6, 6};
        for (int i = 0; i < texts.length; i++) {
            StiltYard x = Check.page(texts[i]);
            CHECK.due("fault() of '" + texts[i] + "'", x.fault(), want[i]);
            CHECK.due("letters behind fault()", x.count(9), texts[i].length());
        }
    }

    private static void yards() {
        String letters = "plgbo";
        for (int places = 4; places <= 12; places++) {
            for (int height = 1; height <= 9; height++) {
                StringBuilder text = new StringBuilder();
                for (int i = 0; i < places; i++) {
                    text.append(letters.charAt((i + height) % 5));
                }
                StiltYard x = Check.page(text.append(';').append(height).toString());
                CHECK.due("yard() of " + text, x.yard(), places);
                for (int i = 0; i < places; i++) {
                    CHECK.due(text + " about(" + i + ", 0)", x.about(i, 0), (i + height) % 5);
                }
                CHECK.due("the next place", x.about(places, 0), StiltYard.UNKNOWN);
                CHECK.due("count(0)", x.count(0), places);
                CHECK.due("count(1)", x.count(1), height);
                CHECK.due("count(6)", x.count(6), 12 - height);
                CHECK.due("count(9)", x.count(9), 0);
                CHECK.due("count(10)", x.count(10), 1);
            }
        }
    }

    private static void noYards() {
        String[] texts = {"", "pppp", "pppp;", "ppp;5", "pppp;0", "pppp;55", "pppp5", "ppppppppppppp;5", " pppp;5", "pppp;5 ",
            "pxpp;5", "pppp;5;5", "PPPP;5"};
        for (String text : texts) {
            StiltYard x = Check.page(text);
            CHECK.due("yard() of '" + text + "'", x.yard(), StiltYard.STATE);
            CHECK.due("its letters stay", x.count(9), text.length());
            CHECK.due("none was read", x.count(10), 0);
        }
        StiltYard x = Check.yard("pppp;5");
        x.step(2);
        Check.write(x, "bad");
        CHECK.due("yard() of 'bad'", x.yard(), StiltYard.STATE);
        CHECK.counts("the yard stays", x, 4, 5, 2, 2, 1, 0, 7, 4, 0, 3, 1, 0);
    }

    private static void anotherYard() {
        StiltYard x = Check.yard("bbbbbb;8");
        x.step(2);
        x.step(2);
        x.step(1);
        x.hear(0, 1, 3, true);
        x.image();
        x.quick(0);
        CHECK.counts("ahead", x, 6, 8, 1, 2, 3, 1, 4, 0, 1, 0, 1, 1);
        Check.write(x, "pplp;3");
        CHECK.due("yard()", x.yard(), 4);
        CHECK.counts("behind", x, 4, 3, 0, 0, 0, 0, 9, 3, 0, 0, 2, 1);
        CHECK.due("about(4, 0)", x.about(4, 0), StiltYard.UNKNOWN);
        CHECK.due("heights()", x.heights(), 511);
        CHECK.due("restore()", x.restore(), StiltYard.STATE);
    }
}
