/** The boundary cases of "What it is" and of promises 1 to 5, one function for each sentence. */
public final class BoundsYardTest {
    private static final Check CHECK = new Check("BoundsYardTest");
    private static final int STATE = StiltYard.STATE;
    private static final int UNKNOWN = StiltYard.UNKNOWN;
    private static final int OUTSIDE = StiltYard.OUTSIDE;
    private static final int FULL = StiltYard.FULL;
    private static final int LEAST = Integer.MIN_VALUE;
    private static final int MOST = Integer.MAX_VALUE;

    public static void main(String[] args) {
        fourToTwelvePlaces();
        numberedFromZero();
        eachALetter();
        thenASemicolon();
        andADigit();
        nothingBehind();
        noYardAtFirst();
        nothingAtFirst();
        letterFromCode32();
        letterToCode126();
        letterSixteen();
        letterOutsideAheadOfFull();
        letterComesBehind();
        letterLeavesTheYard();
        blankOfAnEmptyPage();
        blankOfOneLetter();
        blankOfAFullPage();
        blankLeavesTheYard();
        faultOfAnEmptyPage();
        faultOfAFullPage();
        faultOfTooFewPlaces();
        faultOfTooManyPlaces();
        faultIsNoneInTheBeginningOfAYard();
        faultIsTheFirst();
        faultChangesNothing();
        yardOfAnEmptyPage();
        yardOfAFullPage();
        yardOfAPartOfAYard();
        yardOfMoreThanAYard();
        yardRefusedLeavesAll();
        yardEmptiesThePage();
        yardBegins();
        yardTakesAllThatWas();
        yardTakesTheImage();
        yardSmallerThanTheLast();
        yardGreaterThanTheLast();
        yardReadAgainAndAgain();
        CHECK.end();
    }

    // ---- what it is

    private static void fourToTwelvePlaces() {
        CHECK.sentence("four to twelve PLACES");
        for (int places = 0; places <= 14; places++) {
            StiltYard x = Check.page(Check.times(places, 'p') + ";5");
            CHECK.due("yard() of " + places + " places", x.yard(), places < 4 || places > 12 ? STATE : places);
            CHECK.due("count(0)", x.count(0), places < 4 || places > 12 ? 0 : places);
        }
    }

    private static void numberedFromZero() {
        CHECK.sentence("PLACES (numbered from 0)");
        for (int places = 4; places <= 12; places++) {
            StiltYard x = Check.yard("l" + Check.times(places - 2, 'p') + "b;5");
            CHECK.due("the first of " + places, x.about(0, 0), 1);
            CHECK.due("the last of " + places, x.about(places - 1, 0), 3);
            CHECK.refused("ahead of the first", x, y -> y.about(-1, 0), UNKNOWN);
            int behind = places;
            CHECK.refused("behind the last", x, y -> y.about(behind, 0), UNKNOWN);
        }
    }

    private static void eachALetter() {
        CHECK.sentence("each a letter, the KIND of its GROUND");
        for (int at = 0; at < 12; at++) {
            for (int code = 32; code <= 126; code++) {
                int kind = "plgbo".indexOf(code);
                // a ';' behind four places is no place, but fine there
                boolean fine = kind >= 0 || code == ';' && at >= 4;
                StiltYard x = Check.page(Check.times(at, 'p') + (char) code);
                CHECK.due("fault() of letter " + code + " at " + at, x.fault(), fine ? at + 1 : at);
                x.blank();
                Check.write(x, Check.times(at, 'p') + (char) code + Check.times(11 - at, 'p') + ";5");
                CHECK.due("yard() with letter " + code + " at " + at, x.yard(), kind >= 0 ? 12 : STATE);
                CHECK.due("its kind", x.about(at, 0), kind >= 0 ? kind : UNKNOWN);
            }
        }
    }

    private static void thenASemicolon() {
        CHECK.sentence("then ';'");
        for (int code = 32; code <= 126; code++) {
            StiltYard least = Check.page("pppp" + (char) code);
            boolean fine = code == ';' || "plgbo".indexOf(code) >= 0;
            CHECK.due("fault() of letter " + code + " behind 4", least.fault(), fine ? 5 : 4);
            least.letter('5');
            CHECK.due("yard() with letter " + code + " behind 4", least.yard(), code == ';' ? 4 : STATE);
            StiltYard most = Check.page("pppppppppppp" + (char) code);
            CHECK.due("fault() of letter " + code + " behind 12", most.fault(), code == ';' ? 13 : 12);
            most.letter('5');
            CHECK.due("yard() with letter " + code + " behind 12", most.yard(), code == ';' ? 12 : STATE);
        }
    }

    private static void andADigit() {
        CHECK.sentence("and a digit, the HEIGHT of the blocks (1 to 9)");
        for (int code = 32; code <= 126; code++) {
            boolean fine = code >= '1' && code <= '9';
            for (int places = 4; places <= 12; places += 8) {
                StiltYard x = Check.page(Check.times(places, 'p') + ";" + (char) code);
                CHECK.due("fault() of height " + code, x.fault(), fine ? places + 2 : places + 1);
                CHECK.due("yard() of height " + code, x.yard(), fine ? places : STATE);
                CHECK.due("count(1)", x.count(1), fine ? code - '0' : 0);
            }
        }
    }

    private static void nothingBehind() {
        CHECK.sentence("then ';' and a digit: nothing behind it");
        for (int code = 32; code <= 126; code++) {
            for (int places = 4; places <= 12; places += 8) {
                StiltYard x = Check.page(Check.times(places, 'p') + ";5" + (char) code);
                CHECK.due("fault() of letter " + code + " behind all", x.fault(), places + 2);
                CHECK.due("yard() with letter " + code + " behind all", x.yard(), STATE);
            }
        }
    }

    // ---- 1: a new object

    private static void noYardAtFirst() {
        CHECK.sentence("1: No YARD");
        StiltYard x = new StiltYard();
        CHECK.refused("about(0, 0)", x, y -> y.about(0, 0), UNKNOWN);
        CHECK.refused("as(0, 0)", x, y -> y.as(0, 0), UNKNOWN);
        CHECK.refused("lay(0, 0)", x, y -> y.lay(0, 0), UNKNOWN);
        CHECK.refused("blocks(1)", x, y -> y.blocks(1), STATE);
        CHECK.refused("step(0)", x, y -> y.step(0), STATE);
        CHECK.refused("would(0)", x, y -> y.would(0), STATE);
        CHECK.refused("quick(0)", x, y -> y.quick(0), STATE);
        CHECK.refused("high()", x, y -> y.high(), STATE);
        CHECK.refused("mend(0)", x, y -> y.mend(0), STATE);
        CHECK.refused("hear(0, 1, 0, true)", x, y -> y.hear(0, 1, 0, true), UNKNOWN);
        CHECK.refused("heights()", x, y -> y.heights(), STATE);
        CHECK.refused("races(1, 0, 0)", x, y -> y.races(1, 0, 0), STATE);
        CHECK.refused("image()", x, y -> y.image(), STATE);
        CHECK.refused("restore()", x, y -> y.restore(), STATE);
    }

    private static void nothingAtFirst() {
        CHECK.sentence("1: a new object, all counts");
        CHECK.counts("new", new StiltYard(), 0, 0, 0, 0, 0, 0, 0, 0, 0, 0, 0, 0);
        CHECK.due("digest()", new StiltYard().digest(), Check.hash(0, 0, 0, 0, 0, 0, 0, 0, 0, 0, 0, 0));
    }

    // ---- 2: letter

    private static void letterFromCode32() {
        CHECK.sentence("2: OUTSIDE: code (32 to 126), below");
        StiltYard x = new StiltYard();
        for (int code : new int[] {LEAST, -1, 0, 31}) {
            CHECK.refused("letter(" + code + ")", x, y -> y.letter(code), OUTSIDE);
        }
        CHECK.due("letter(32)", x.letter(32), 1);
        CHECK.due("letter(33)", x.letter(33), 2);
    }

    private static void letterToCode126() {
        CHECK.sentence("2: OUTSIDE: code (32 to 126), above");
        StiltYard x = new StiltYard();
        // 'p' and a multiple of 256 or 65536: the same letter, if the code were cut short
        for (int code : new int[] {127, 128, 256 + 'p', 65536 + 'p', MOST}) {
            CHECK.refused("letter(" + code + ")", x, y -> y.letter(code), OUTSIDE);
        }
        CHECK.due("letter(126)", x.letter(126), 1);
        CHECK.due("letter(125)", x.letter(125), 2);
    }

    private static void letterSixteen() {
        CHECK.sentence("2: how many THE PAGE has. FULL: above 16");
        StiltYard x = new StiltYard();
        for (int n = 1; n <= 16; n++) {
            CHECK.due("letter " + n, x.letter('p'), n);
            CHECK.due("count(9)", x.count(9), n);
        }
        CHECK.refused("letter 17", x, y -> y.letter('p'), FULL);
        CHECK.refused("letter 18", x, y -> y.letter('p'), FULL);
        CHECK.due("blank()", x.blank(), 16);
        CHECK.due("letter behind blank()", x.letter('p'), 1);
    }

    private static void letterOutsideAheadOfFull() {
        CHECK.sentence("2: OUTSIDE; FULL: of several the first");
        StiltYard x = Check.page(Check.times(16, 'p'));
        CHECK.refused("letter(31)", x, y -> y.letter(31), OUTSIDE);
        CHECK.refused("letter(127)", x, y -> y.letter(127), OUTSIDE);
        CHECK.refused("letter(32)", x, y -> y.letter(32), FULL);
        CHECK.refused("letter(126)", x, y -> y.letter(126), FULL);
    }

    private static void letterComesBehind() {
        CHECK.sentence("2: A letter comes behind THE PAGE");
        StringBuilder text = new StringBuilder();
        StiltYard x = new StiltYard();
        long[] numbers = new long[16 + 12];
        for (int i = 0; i < 16; i++) {
            x.letter(111 + i);
            numbers[i] = 111 + i;
            text.append((char) (111 + i));
        }
        numbers[16 + 9] = 16;
        CHECK.due("digest() of the page " + text, x.digest(), Check.hash(numbers));
        StiltYard y = Check.page("polb;7");
        y.yard();
        CHECK.due("place 1", y.about(1, 0), 4);
        CHECK.due("place 2", y.about(2, 0), 1);
    }

    private static void letterLeavesTheYard() {
        CHECK.sentence("2: a letter, with a YARD");
        StiltYard x = Check.yard("bbbb;2");
        x.step(1);
        Check.write(x, "pppppp;9");
        CHECK.counts("the yard stays", x, 4, 2, 1, 2, 1, 0, 10, 0, 0, 8, 1, 0);
    }

    // ---- 3: blank

    private static void blankOfAnEmptyPage() {
        CHECK.sentence("3: how many letters it had: none");
        StiltYard x = new StiltYard();
        CHECK.due("blank()", x.blank(), 0);
        CHECK.due("blank() again", x.blank(), 0);
        CHECK.due("count(9)", x.count(9), 0);
        CHECK.due("blank() behind yard()", Check.yard("pppp;5").blank(), 0);
    }

    private static void blankOfOneLetter() {
        CHECK.sentence("3: how many letters it had: one");
        StiltYard x = Check.page("p");
        CHECK.due("blank()", x.blank(), 1);
        CHECK.due("count(9)", x.count(9), 0);
        CHECK.due("blank() again", x.blank(), 0);
    }

    private static void blankOfAFullPage() {
        CHECK.sentence("3: how many letters it had: sixteen");
        StiltYard x = Check.page("pppppppppppp;9xx");
        CHECK.due("blank()", x.blank(), 16);
        CHECK.due("count(9)", x.count(9), 0);
        CHECK.due("fault()", x.fault(), 0);
        CHECK.due("digest()", x.digest(), new StiltYard().digest());
        Check.write(x, "lllllllllllllll");
        CHECK.due("the sixteenth letter", x.letter('l'), 16);
    }

    private static void blankLeavesTheYard() {
        CHECK.sentence("3: THE PAGE is empty, the YARD stays");
        StiltYard x = Check.yard("bbbb;2");
        x.step(1);
        Check.write(x, "pp");
        CHECK.due("blank()", x.blank(), 2);
        CHECK.counts("behind", x, 4, 2, 1, 2, 1, 0, 10, 0, 0, 0, 1, 0);
    }

    // ---- 4: fault

    private static void fault(String text, int want) {
        CHECK.due("fault() of '" + text + "'", Check.page(text).fault(), want);
    }

    private static void faultOfAnEmptyPage() {
        CHECK.sentence("4: how many letters it has: none");
        fault("", 0);
        CHECK.due("behind yard()", Check.yard("pppp;5").fault(), 0);
    }

    private static void faultOfAFullPage() {
        CHECK.sentence("4: a full page has a fault always");
        fault("pppppppppppppppp", 12);
        fault("pppppppppppp;9pp", 14);
        fault("pppppppppppp;999", 14);
        fault("ppppppppppppp;99", 12);
        fault("pppp;99999999999", 6);
        fault("xppppppppppppppp", 0);
    }

    private static void faultOfTooFewPlaces() {
        CHECK.sentence("4: the first letter that no YARD has there: ';' behind too few");
        fault(";", 0);
        fault("p;", 1);
        fault("pp;", 2);
        fault("ppp;", 3);
        fault("pppp;", 5);
    }

    private static void faultOfTooManyPlaces() {
        CHECK.sentence("4: the first letter that no YARD has there: a thirteenth place");
        fault("ppppppppppp", 11);
        fault("pppppppppppp", 12);
        fault("ppppppppppppp", 12);
        fault("pppppppppppppp;5", 12);
    }

    private static void faultIsNoneInTheBeginningOfAYard() {
        CHECK.sentence("4: how many letters it has, if there is none");
        String whole = "plgboplgbopl;9";
        for (int n = 0; n <= whole.length(); n++) {
            fault(whole.substring(0, n), n);
        }
        for (int places = 4; places <= 12; places++) {
            fault(Check.times(places, 'o') + ";", places + 1);
            fault(Check.times(places, 'o') + ";1", places + 2);
        }
    }

    private static void faultIsTheFirst() {
        CHECK.sentence("4: the first letter, behind those ahead of it");
        fault("pxpyp", 1);
        fault("pp;p;", 2);
        fault("pppp;;0", 5);
        fault("pppp5;5", 4);
        fault("pppp;p", 5);
        // what comes behind cannot mend it
        fault("ppp;pppp;5", 3);
    }

    private static void faultChangesNothing() {
        CHECK.sentence("4: fault changes nothing");
        for (String text : new String[] {"", "x", "pppp;5", "pppp;5x", "pppppppppppppppp"}) {
            StiltYard x = Check.page(text);
            long ahead = x.digest();
            CHECK.due("fault() twice of '" + text + "'", x.fault(), x.fault());
            CHECK.due("digest()", x.digest(), ahead);
        }
    }

    // ---- 5: yard

    private static void yardOfAnEmptyPage() {
        CHECK.sentence("5: STATE: it is none: an empty page");
        CHECK.refused("yard()", new StiltYard(), StiltYard::yard, STATE);
        CHECK.refused("yard() twice", Check.yard("pppp;5"), StiltYard::yard, STATE);
        StiltYard x = Check.page("pppp;5");
        x.blank();
        CHECK.refused("yard() behind blank()", x, StiltYard::yard, STATE);
    }

    private static void yardOfAFullPage() {
        CHECK.sentence("5: STATE: it is none: a full page");
        CHECK.refused("all places", Check.page("pppppppppppppppp"), StiltYard::yard, STATE);
        CHECK.refused("14 places", Check.page("pppppppppppppp;5"), StiltYard::yard, STATE);
        CHECK.refused("two letters too many", Check.page("pppppppppppp;555"), StiltYard::yard, STATE);
    }

    private static void yardOfAPartOfAYard() {
        CHECK.sentence("5: STATE: it is none: not all of it");
        String whole = "plgboplgbopl;9";
        for (int n = 0; n < whole.length(); n++) {
            CHECK.refused("yard() of " + n + " letters", Check.page(whole.substring(0, n)), StiltYard::yard, STATE);
        }
        CHECK.due("yard() of all letters", Check.page(whole).yard(), 12);
    }

    private static void yardOfMoreThanAYard() {
        CHECK.sentence("5: STATE: it is none: more than one");
        for (String text : new String[] {"pppp;55", "pppp;5p", "pppp;5;", "pppp;5 ", "pppppppppppp;99", " pppp;5"}) {
            CHECK.refused("yard() of '" + text + "'", Check.page(text), StiltYard::yard, STATE);
        }
    }

    private static void yardRefusedLeavesAll() {
        CHECK.sentence("5: refused: nothing has changed");
        StiltYard x = Check.yard("lpppp;4");
        x.step(2);
        x.hear(1, 1, 3, true);
        x.image();
        x.step(1);
        Check.write(x, "pppp;");
        CHECK.refused("yard()", x, StiltYard::yard, STATE);
        CHECK.counts("behind", x, 5, 4, 3, 3, 2, 0, 8, 4, 1, 5, 1, 0);
        CHECK.due("the image is kept", x.restore(), 1);
        CHECK.due("a letter more", x.letter('9'), 6);
        CHECK.due("yard()", x.yard(), 4);
    }

    private static void yardEmptiesThePage() {
        CHECK.sentence("5: THE PAGE is empty then");
        for (String text : new String[] {"pppp;1", "pppppppppppp;9"}) {
            StiltYard x = Check.page(text);
            x.yard();
            CHECK.due("count(9)", x.count(9), 0);
            CHECK.due("blank()", x.blank(), 0);
            CHECK.due("letter()", x.letter('p'), 1);
        }
    }

    private static void yardBegins() {
        CHECK.sentence("then one stands on poles at PLACE 0, with a SWAY of 0");
        CHECK.counts("the least", Check.yard("llll;1"), 4, 1, 0, 0, 0, 0, 11, 0, 0, 0, 1, 0);
        CHECK.counts("the most", Check.yard("pppppppppppp;9"), 12, 9, 0, 0, 0, 0, 3, 12, 0, 0, 1, 0);
    }

    private static void yardTakesAllThatWas() {
        CHECK.sentence("5: another one is gone, with all that was");
        StiltYard x = Check.yard("bbbbbb;9");
        x.step(1);
        x.step(2);
        x.step(1);
        x.lay(2, 4);
        for (int i = 0; i < 6; i++) {
            x.hear(0, 1, 5, true);
        }
        x.quick(0);
        CHECK.counts("ahead", x, 6, 9, 1, 2, 3, 1, 3, 0, 6, 0, 1, 1);
        Check.write(x, "bbbbbb;8");
        CHECK.due("yard()", x.yard(), 6);
        CHECK.counts("behind", x, 6, 8, 0, 0, 0, 0, 4, 0, 0, 0, 2, 1);
        CHECK.due("the ground is the page's", x.about(2, 0), 3);
        CHECK.due("nothing is heard", x.heights(), 511);
        CHECK.due("it can be heard again", x.hear(0, 1, 5, true), 1);
    }

    private static void yardTakesTheImage() {
        CHECK.sentence("5: another one is gone, with its IMAGE");
        StiltYard x = Check.yard("pppp;5");
        x.image();
        Check.write(x, "pppp;5");
        x.yard();
        CHECK.refused("restore()", x, StiltYard::restore, STATE);
    }

    private static void yardSmallerThanTheLast() {
        CHECK.sentence("5: how many PLACES: fewer than the last one had");
        StiltYard x = Check.yard("oooooooooooo;9");
        Check.write(x, "llll;1");
        CHECK.due("yard()", x.yard(), 4);
        CHECK.due("the last place", x.about(3, 0), 1);
        for (int place = 4; place <= 12; place++) {
            int gone = place;
            CHECK.refused("about(" + place + ", 0)", x, y -> y.about(gone, 0), UNKNOWN);
        }
        CHECK.due("to the end", x.step(3), 3);
        CHECK.refused("farther", x, y -> y.step(1), STATE);
    }

    private static void yardGreaterThanTheLast() {
        CHECK.sentence("5: how many PLACES: more than the last one had");
        StiltYard x = Check.yard("llll;1");
        x.step(3);
        Check.write(x, "gggggggggggg;9");
        CHECK.due("yard()", x.yard(), 12);
        for (int place = 0; place < 12; place++) {
            CHECK.due("about(" + place + ", 0)", x.about(place, 0), 2);
        }
        CHECK.due("the first step", x.step(1), 1);
    }

    private static void yardReadAgainAndAgain() {
        CHECK.sentence("21: how often a YARD was read: as often as 512 calls allow");
        StiltYard x = new StiltYard();
        for (int n = 1; n <= 72; n++) {
            Check.write(x, "pppp;5");
            CHECK.due("yard " + n, x.yard(), 4);
        }
        CHECK.due("count(10)", x.count(10), 72);
    }
}
