/** Promises 12 to 14: quick, high, mend. */
public final class WouldBeTest {
    private static final Check CHECK = new Check("WouldBeTest");

    public static void main(String[] args) {
        ways();
        fromNow();
        fortyTimes();
        quickRefused();
        highs();
        mends();
        unchanged();
        CHECK.end();
    }

    private static void way(String when, StiltYard x, int fewest, int... firstFour) {
        CHECK.due(when + " quick(0)", x.quick(0), fewest);
        for (int i = 0; i < 4; i++) {
            CHECK.due(when + " quick(" + (10 + i) + ")", x.quick(10 + i), firstFour[i]);
        }
    }

    private static void ways() {
        int none = StiltYard.NONE;
        way("pppp;9", Check.yard("pppp;9"), 1, 3, none, none, none);
        way("ppppp;1", Check.yard("ppppp;1"), 2, 1, 3, none, none);
        way("pppppp;1", Check.yard("pppppp;1"), 2, 2, 3, none, none);
        way("ppppppp;1", Check.yard("ppppppp;1"), 2, 3, 3, none, none);
        // bears 5: 6 places without a rest are too much, and a rest helps between the steps alone
        way("ppppppp;7", Check.yard("ppppppp;7"), 3, 3, 0, 3, none);
        // bears 3: each step of 3 wants two rests
        way("ppppppp;9", Check.yard("ppppppp;9"), 4, 3, 0, 0, 3);
        // the brook's end costs 6 of 3, 4 of 2, 2 of 1
        way("pppb;7", Check.yard("pppb;7"), 2, 1, 2, none, none);
        way("pppb;6", Check.yard("pppb;6"), 1, 3, none, none, none);
        way("bbbbbbbbbbbb;9", Check.yard("bbbbbbbbbbbb;9"), none, none, none, none, none);
    }

    private static void fromNow() {
        int none = StiltYard.NONE;
        StiltYard x = Check.yard("ppppppp;9");
        x.step(3);
        way("sway 3 at place 3", x, 3, 0, 0, 3, none);
        x.step(0);
        way("sway 1 at place 3", x, 2, 0, 3, none, none);
        x.step(0);
        way("sway 0 at place 3", x, 1, 3, none, none, none);
        x.step(3);
        way("at the end", x, 0, none, none, none, none);
        x.step(0);
        CHECK.due("at the end with less sway", x.quick(0), 0);
        x.blocks(9);
        CHECK.due("again from place 0", x.quick(0), 4);
    }

    private static void fortyTimes() {
        StiltYard x = Check.yard("bbbb;9");
        for (int n = 1; n <= 40; n++) {
            CHECK.due("quick " + n + " refused", x.quick(n + 13), StiltYard.OUTSIDE);
            int got = n % 2 == 0 ? x.quick(0) : x.quick(10);
            CHECK.due("quick " + n, got, StiltYard.NONE);
            CHECK.due("count(11)", x.count(11), n);
            if (n == 20) {
                Check.write(x, "bbbbb;9");
                CHECK.due("another yard", x.yard(), 5);
                CHECK.due("count(11) stays", x.count(11), 20);
                x.image();
            }
        }
        CHECK.due("quick 41", x.quick(0), StiltYard.STATE);
        CHECK.due("quick 41, outside", x.quick(1), StiltYard.OUTSIDE);
        x.restore();
        CHECK.due("count(11) is no part of the image", x.count(11), 40);
        Check.write(x, "pppp;9");
        x.yard();
        CHECK.due("quick 41 in another yard", x.quick(0), StiltYard.STATE);
        CHECK.due("count(11)", x.count(11), 40);
        CHECK.due("high() goes on", x.high(), 9);
    }

    private static void quickRefused() {
        StiltYard x = Check.yard("pppp;5");
        int[] outside = {-1, 1, 9, 14, Integer.MIN_VALUE, Integer.MAX_VALUE};
        for (int what : outside) {
            CHECK.due("quick(" + what + ")", x.quick(what), StiltYard.OUTSIDE);
        }
        CHECK.due("count(11)", x.count(11), 0);
    }

    private static void highs() {
        CHECK.due("pppp;1", Check.yard("pppp;1").high(), 9);
        CHECK.due("oooo;9", Check.yard("oooo;9").high(), 7);
        // a bog keeps the sway: for 4 places 3 + 5 or 4 + 4
        CHECK.due("ooooo;1", Check.yard("ooooo;1").high(), 4);
        // in brooks 2 for each place, no rest
        CHECK.due("bbbb;5", Check.yard("bbbb;5").high(), 6);
        CHECK.due("bbbbbb;5", Check.yard("bbbbbb;5").high(), 2);
        CHECK.due("bbbbbbb;5", Check.yard("bbbbbbb;5").high(), StiltYard.NONE);
        // 5 to the bog and 6 from there
        CHECK.due("bbbobbb;5", Check.yard("bbbobbb;5").high(), 1);
        StiltYard x = Check.yard("bbbbbbb;9");
        x.step(1);
        CHECK.due("from place 0, not from now", x.high(), StiltYard.NONE);
        x.lay(6, 0);
        CHECK.due("ground as it is now: 2 for 3 places and 3 more", x.high(), 3);
    }

    private static void mend(String when, StiltYard x, int place, int steps) {
        CHECK.due(when + " mend(0)", x.mend(0), place);
        CHECK.due(when + " mend(1)", x.mend(1), steps);
    }

    private static void mends() {
        int none = StiltYard.NONE;
        mend("pppp;9", Check.yard("pppp;9"), none, none);
        mend("oooo;9", Check.yard("oooo;9"), 3, 1);
        mend("oooo;7", Check.yard("oooo;7"), none, none);
        mend("bbbbbbbbbbbb;9", Check.yard("bbbbbbbbbbbb;9"), none, none);
        // now 1 + 4 by two steps; with a plain end 3 by one
        mend("pppb;7", Check.yard("pppb;7"), 3, 1);
        // two steps are 2 for each place, 12 in all: each mended place spares what its step is far
        mend("bbbbbbb;3", Check.yard("bbbbbbb;3"), 3, 2);
        StiltYard x = Check.yard("oooo;9");
        x.step(1);
        mend("from place 0, not from now", x, 3, 1);
        x.lay(3, 0);
        mend("mended", x, none, none);
        int[] outside = {-1, 2, Integer.MIN_VALUE, Integer.MAX_VALUE};
        for (int what : outside) {
            CHECK.due("mend(" + what + ")", x.mend(what), StiltYard.OUTSIDE);
        }
    }

    private static void unchanged() {
        StiltYard x = Check.yard("plgbop;6");
        x.step(2);
        x.hear(1, 1, 1, true);
        x.image();
        long ahead = x.digest();
        x.high();
        x.mend(0);
        x.mend(1);
        CHECK.due("digest() behind high() and mend()", x.digest(), ahead);
        x.quick(0);
        x.quick(12);
        CHECK.counts("behind quick()", x, 6, 6, 2, 4, 1, 0, 6, 2, 1, 0, 1, 2);
    }
}
