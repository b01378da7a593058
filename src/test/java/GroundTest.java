/** Promises 6 to 8: about, as, lay. */
public final class GroundTest {
    private static final Check CHECK = new Check("GroundTest");

    public static void main(String[] args) {
        abouts();
        tries();
        casts();
        lays();
        CHECK.end();
    }

    private static void abouts() {
        int[][] want = {
            {0, 1, 2, 3, 0},
            {1, 2, 3, 4, 1},
            {2, 3, 4, 5, 0},
            {3, 2, 4, 6, 3},
            {4, 3, 4, 5, 2},
        };
        StiltYard x = Check.yard("plgbo;5");
        for (int place = 0; place < 5; place++) {
            for (int what = 0; what < 5; what++) {
                CHECK.due("about(" + place + ", " + what + ")", x.about(place, what), want[place][what]);
            }
        }
        int[] unknown = {-1, 5, 12, Integer.MIN_VALUE, Integer.MAX_VALUE};
        for (int place : unknown) {
            CHECK.due("about(" + place + ", 0)", x.about(place, 0), StiltYard.UNKNOWN);
            CHECK.due("about(" + place + ", 6)", x.about(place, 6), StiltYard.UNKNOWN);
        }
        int[] outside = {-1, 6, Integer.MIN_VALUE, Integer.MAX_VALUE};
        for (int what : outside) {
            CHECK.due("about(0, " + what + ")", x.about(0, what), StiltYard.OUTSIDE);
        }
    }

    /** With nothing heard 9 heights are possible: best is 5 against 4, first when 5 stand. */
    private static void tries() {
        StiltYard x = Check.yard("plgbo;5");
        int[] first = {6, 5, 4, 5, 4};
        for (int place = 0; place < 5; place++) {
            // sway + growth is 7 then: heights 6 to 9 fall, 1 to 5 stand
            CHECK.due("TRY " + place, x.about(place, 5), first[place]);
        }
        x.hear(0, 1, 4, false);
        x.hear(0, 1, 5, true);
        CHECK.due("one height is left", x.heights(), 1 << 6);
        for (int place = 0; place < 5; place++) {
            CHECK.due("TRY " + place + " of one height", x.about(place, 5), 0);
        }
        x.hear(0, 1, 0, true);
        for (int place = 0; place < 5; place++) {
            CHECK.due("TRY " + place + " of none", x.about(place, 5), StiltYard.NONE);
        }
    }

    private static void casts() {
        int[][] want = {
            {1, 0, 0, 0, 0},
            {1, 1, 0, 0, 0},
            {1, 0, 1, 0, 0},
            {1, 0, 0, 1, 0},
            {1, 1, 0, 0, 1},
        };
        StiltYard x = Check.yard("plgbo;5");
        for (int place = 0; place < 5; place++) {
            for (int kind = 0; kind < 5; kind++) {
                CHECK.due("as(" + place + ", " + kind + ")", x.as(place, kind), want[place][kind] == 1 ? place : StiltYard.NONE);
            }
            CHECK.due("as(" + place + ", 5)", x.as(place, 5), StiltYard.OUTSIDE);
            CHECK.due("as(" + place + ", -1)", x.as(place, -1), StiltYard.OUTSIDE);
        }
        CHECK.due("as(5, 5)", x.as(5, 5), StiltYard.UNKNOWN);
        CHECK.due("as(-1, 0)", x.as(-1, 0), StiltYard.UNKNOWN);
        CHECK.due("as(MAX, 0)", x.as(Integer.MAX_VALUE, 0), StiltYard.UNKNOWN);
        CHECK.due("as(0, MIN)", x.as(0, Integer.MIN_VALUE), StiltYard.OUTSIDE);
    }

    private static void lays() {
        StiltYard x = Check.yard("pppp;5");
        x.step(3);
        for (int kind = 1; kind <= 4; kind++) {
            CHECK.due("lay(3, " + kind + ")", x.lay(3, kind), kind - 1);
            CHECK.due("about(3, 0)", x.about(3, 0), kind);
            CHECK.due("count(7)", x.count(7), 3);
        }
        CHECK.due("lay(3, 4) again", x.lay(3, 4), 4);
        CHECK.due("lay(4, 9)", x.lay(4, 9), StiltYard.UNKNOWN);
        CHECK.due("lay(-1, 0)", x.lay(-1, 0), StiltYard.UNKNOWN);
        CHECK.due("lay(0, 5)", x.lay(0, 5), StiltYard.OUTSIDE);
        CHECK.due("lay(0, -1)", x.lay(0, -1), StiltYard.OUTSIDE);
        CHECK.due("on the spot on a bog", x.would(0), 3);
        CHECK.due("lay(3, 0)", x.lay(3, 0), 4);
        CHECK.due("on the spot on ground", x.would(0), 1);
        CHECK.counts("he stays", x, 4, 5, 3, 3, 1, 0, 7, 4);
    }
}
