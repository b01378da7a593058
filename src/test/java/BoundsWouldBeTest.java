/** The boundary cases of QUICK, HIGH and MEND in "Terms" and of promises 12 to 14, one function for each sentence. */
public final class BoundsWouldBeTest {
    private static final Check CHECK = new Check("BoundsWouldBeTest");
    private static final int NONE = StiltYard.NONE;
    private static final int OUTSIDE = StiltYard.OUTSIDE;
    private static final int STATE = StiltYard.STATE;
    private static final int LEAST = Integer.MIN_VALUE;
    private static final int MOST = Integer.MAX_VALUE;
    private static final int[] QUICK_OUTSIDE = {LEAST, -1, 1, 2, 9, 14, 100, MOST};

    public static void main(String[] args) {
        quickIsZeroAtTheEnd();
        quickInOneStep();
        quickOfFourSteps();
        quickOfMoreThanFourSteps();
        quickTheFirstOneFirst();
        quickWithoutFalling();
        quickFromNow();
        quickCannot();
        quickInAsManyAsThereAre();
        quickOutside();
        quickWithoutAYard();
        quickOutsideAheadOfState();
        quickFortyTimes();
        quickFortyTimesInSeveralYards();
        quickFortyTimesAndRestore();
        quickRefusedIsNotDone();
        quickNoneIsDone();
        quickChangesNothingElse();
        highTheGreatest();
        highTheLeast();
        highEachHeight();
        highNone();
        highFromPlaceZero();
        highWhateverTheHeightIs();
        highWithoutAYard();
        highChangesNothing();
        mendTheLeastOfLikeOnes();
        mendTheFewestSteps();
        mendByOneStepFewer();
        mendNoneInFewer();
        mendWhereItCannotBeNow();
        mendCanBeByNone();
        mendTheLastPlace();
        mendFromPlaceZero();
        mendHeightAsItIs();
        mendOutside();
        mendWithoutAYard();
        mendOutsideAheadOfState();
        mendWhatIsMended();
        mendChangesNothing();
        mendIsAsLay();
        CHECK.end();
    }

    private static void way(String when, StiltYard x, int fewest, int... firstFour) {
        CHECK.due(when + " quick(0)", x.quick(0), fewest);
        for (int i = 0; i < 4; i++) {
            CHECK.due(when + " quick(" + (10 + i) + ")", x.quick(10 + i), firstFour[i]);
        }
    }

    private static void mend(String when, StiltYard x, int place, int steps) {
        CHECK.due(when + " mend(0)", x.mend(0), place);
        CHECK.due(when + " mend(1)", x.mend(1), steps);
    }

    // ---- 12: quick

    private static void quickIsZeroAtTheEnd() {
        CHECK.sentence("12: in how few STEPS (0 if he is there)");
        StiltYard x = Check.yard("pppb;6");
        x.step(3);
        way("as much sway as he bears", x, 0, NONE, NONE, NONE, NONE);
        StiltYard y = Check.yard("pppppppppppp;9");
        Check.walk(y, 11);
        way("no sway", y, 0, NONE, NONE, NONE, NONE);
    }

    private static void quickInOneStep() {
        CHECK.sentence("12: how few: one");
        way("3 far", Check.yard("pppp;9"), 1, 3, NONE, NONE, NONE);
        StiltYard x = Check.yard("pppp;9");
        x.step(1);
        way("2 far", x, 1, 2, NONE, NONE, NONE);
        x.step(1);
        way("1 far", x, 1, 1, NONE, NONE, NONE);
    }

    private static void quickOfFourSteps() {
        CHECK.sentence("12: 10 to 13 how far the so-manieth STEP is (NONE: there is none such)");
        // bears 5 and 3: between two steps of 3 one rest, two rests
        way("three steps", Check.yard("ppppppp;7"), 3, 3, 0, 3, NONE);
        way("four steps", Check.yard("ppppppp;9"), 4, 3, 0, 0, 3);
        // bears 4
        way("two steps", Check.yard("ppppp;8"), 2, 1, 3, NONE, NONE);
    }

    private static void quickOfMoreThanFourSteps() {
        CHECK.sentence("12: 13, where there are more STEPS than four");
        // bears 4, 9 places: three steps of 3 and three rests, for 9 less 6 is 3
        way("six steps", Check.yard("pppppppppp;8"), 6, 3, 0, 0, 3);
    }

    private static void quickTheFirstOneFirst() {
        CHECK.sentence("12: of like ones by the least STEPS, the first one first");
        way("4 in two", Check.yard("ppppp;1"), 2, 1, 3, NONE, NONE);
        way("5 in two", Check.yard("pppppp;1"), 2, 2, 3, NONE, NONE);
        way("7 in three", Check.yard("pppppppp;1"), 3, 1, 3, 3, NONE);
        way("8 in three", Check.yard("ppppppppp;1"), 3, 2, 3, 3, NONE);
        // 10 in four, of 3, 3, 3 and 1: the 1 first
        way("10 in four", Check.yard("ppppppppppp;1"), 4, 1, 3, 3, 3);
    }

    private static void quickWithoutFalling() {
        CHECK.sentence("12: without FALLING: with just so much SWAY as he bears");
        way("6 is borne", Check.yard("pppb;6"), 1, 3, NONE, NONE, NONE);
        // 1 and 4 in the brook
        way("6 is too much, 5 is borne", Check.yard("pppb;7"), 2, 1, 2, NONE, NONE);
        // 2 and 2 in the brook
        way("5 is too much, 4 is borne", Check.yard("pppb;8"), 2, 2, 1, NONE, NONE);
    }

    private static void quickFromNow() {
        CHECK.sentence("12: QUICK from now: PLACE, SWAY, GROUND, HEIGHT as they are");
        StiltYard x = Check.yard("ppppppp;9");
        x.step(3);
        way("sway 3", x, 3, 0, 0, 3, NONE);
        x.step(0);
        way("sway 1", x, 2, 0, 3, NONE, NONE);
        x.lay(3, 1);
        way("sway 1 on a lawn", x, 2, 0, 3, NONE, NONE);
        x.lay(6, 3);
        // 1 and 2, a rest, 2 in the brook: 3
        way("the end is a brook", x, 3, 2, 0, 1, NONE);
        x.blocks(6);
        // 1 and 3, a rest, 4 in the brook: 6
        way("lower blocks, from place 0", x, 4, 1, 3, 0, 2);
    }

    private static void quickCannot() {
        CHECK.sentence("12: NONE: he cannot");
        way("brooks", Check.yard("bbbbbbbbbbbb;9"), NONE, NONE, NONE, NONE, NONE);
        // bears 3: a step of 1 into a bog is 3
        way("into a bog", Check.yard("ppppo;9"), 4, 3, 0, 0, 1);
        way("out of a bog", Check.yard("poooo;9"), NONE, NONE, NONE, NONE, NONE);
        StiltYard now = Check.yard("bppp;9");
        for (int i = 0; i < 3; i++) {
            now.step(0);
        }
        way("from place 0, with too much sway now", now, NONE, NONE, NONE, NONE, NONE);
    }

    private static void quickInAsManyAsThereAre() {
        CHECK.sentence("12: none, if he cannot in 40: 34 are the most that any yard wants");
        StiltYard x = Check.yard("lggggggggggg;9");
        way("gravel", x, 31, 1, 0, 0, 1);
        x.lay(0, 3);
        for (int i = 0; i < 3; i++) {
            x.step(0);
        }
        x.lay(0, 1);
        way("three rests on the lawn ahead", x, 34, 0, 0, 0, 1);
    }

    private static void quickOutside() {
        CHECK.sentence("12: OUTSIDE");
        StiltYard x = Check.yard("ppppppp;9");
        for (int what : QUICK_OUTSIDE) {
            CHECK.refused("quick(" + what + ")", x, y -> y.quick(what), OUTSIDE);
        }
        way("the bounds", x, 4, 3, 0, 0, 3);
    }

    private static void quickWithoutAYard() {
        CHECK.sentence("12: STATE: no YARD");
        StiltYard x = Check.page("pppp;5");
        for (int what : new int[] {0, 10, 11, 12, 13}) {
            CHECK.refused("quick(" + what + ")", x, y -> y.quick(what), STATE);
        }
        CHECK.due("count(11)", x.count(11), 0);
    }

    private static void quickOutsideAheadOfState() {
        CHECK.sentence("12: OUTSIDE; STATE: of several the first");
        StiltYard none = new StiltYard();
        StiltYard done = done(40);
        for (int what : QUICK_OUTSIDE) {
            CHECK.refused("no yard, quick(" + what + ")", none, y -> y.quick(what), OUTSIDE);
            CHECK.refused("done 40 times, quick(" + what + ")", done, y -> y.quick(what), OUTSIDE);
        }
    }

    private static StiltYard done(int times) {
        StiltYard x = Check.yard("pppp;5");
        for (int n = 0; n < times; n++) {
            x.quick(0);
        }
        return x;
    }

    private static void quickFortyTimes() {
        CHECK.sentence("12: STATE: quick() was done 40 times");
        StiltYard x = done(39);
        CHECK.due("count(11)", x.count(11), 39);
        CHECK.due("quick 40", x.quick(10), 3);
        CHECK.due("count(11)", x.count(11), 40);
        for (int what : new int[] {0, 10, 11, 12, 13}) {
            CHECK.refused("quick 41, " + what, x, y -> y.quick(what), STATE);
        }
        CHECK.due("count(11)", x.count(11), 40);
        CHECK.due("high() is told", x.high(), 9);
        CHECK.due("mend(0) is told", x.mend(0), NONE);
    }

    private static void quickFortyTimesInSeveralYards() {
        CHECK.sentence("12: STATE: quick() was done 40 times, in one yard or in several");
        StiltYard x = done(39);
        Check.write(x, "ppppp;5");
        x.yard();
        CHECK.due("quick 40", x.quick(0), 2);
        CHECK.refused("quick 41", x, y -> y.quick(0), STATE);
        Check.write(x, "pppp;5");
        x.yard();
        CHECK.refused("quick 41 in a third yard", x, y -> y.quick(0), STATE);
    }

    private static void quickFortyTimesAndRestore() {
        CHECK.sentence("12: STATE: quick() was done 40 times: the IMAGE keeps no such number");
        StiltYard x = Check.yard("pppp;5");
        x.image();
        for (int n = 0; n < 40; n++) {
            x.quick(0);
        }
        CHECK.due("restore()", x.restore(), 0);
        CHECK.refused("quick 41", x, y -> y.quick(0), STATE);
    }

    private static void quickRefusedIsNotDone() {
        CHECK.sentence("12: a refused one is not done");
        StiltYard x = new StiltYard();
        for (int n = 0; n < 50; n++) {
            x.quick(0);
            x.quick(1);
        }
        CHECK.due("count(11)", x.count(11), 0);
        Check.write(x, "pppp;5");
        x.yard();
        for (int n = 0; n < 50; n++) {
            x.quick(14);
        }
        CHECK.due("count(11)", x.count(11), 0);
        for (int n = 1; n <= 40; n++) {
            CHECK.due("quick " + n, x.quick(0), 1);
        }
        CHECK.refused("quick 41", x, y -> y.quick(0), STATE);
    }

    private static void quickNoneIsDone() {
        CHECK.sentence("12: one that answers NONE is done");
        StiltYard x = Check.yard("bbbbbbbbbbbb;9");
        for (int n = 1; n <= 40; n++) {
            CHECK.due("quick " + n, x.quick(n % 2 == 0 ? 0 : 13), NONE);
            CHECK.due("count(11)", x.count(11), n);
        }
        CHECK.refused("quick 41", x, y -> y.quick(0), STATE);
    }

    private static void quickChangesNothingElse() {
        CHECK.sentence("12: quick changes nothing but how often it was done");
        StiltYard x = Check.yard("plgbop;6");
        x.step(2);
        x.hear(1, 1, 1, true);
        x.quick(0);
        x.quick(13);
        CHECK.counts("behind", x, 6, 6, 2, 4, 1, 0, 6, 2, 1, 0, 1, 2);
    }

    // ---- 13: high

    private static void highTheGreatest() {
        CHECK.sentence("13: the greatest HEIGHT (1 to 9): 9");
        CHECK.due("pppp", Check.yard("pppp;1").high(), 9);
        CHECK.due("gggggggggggg, in 31", Check.yard("gggggggggggg;1").high(), 9);
        CHECK.due("llllllllllll", Check.yard("llllllllllll;1").high(), 9);
    }

    /** In brooks there is no rest, and each place is 2: six are 12, one more than a height of 1 bears. */
    private static void highTheLeast() {
        CHECK.sentence("13: the greatest HEIGHT (1 to 9): 1");
        // 5 to the bog by 3, 6 from there by 3: 11
        CHECK.due("bbbobbb", Check.yard("bbbobbb;5").high(), 1);
        CHECK.due("bbbbbbb", Check.yard("bbbbbbb;5").high(), NONE);
    }

    /** Without a rest: brooks are 2 for each place, bogs 2 for each step more than it is far. */
    private static void highEachHeight() {
        CHECK.sentence("13: the greatest HEIGHT: one more is too much");
        String[] yards = {"bbbb;1", "bbbbb;1", "bbbbbb;1", "oooo;1", "ooooo;1"};
        // 6, 8, 10; 5; 3 and 5, or 4 and 4
        int[] sways = {6, 8, 10, 5, 8};
        for (int i = 0; i < yards.length; i++) {
            int height = 12 - sways[i];
            StiltYard x = Check.yard(yards[i]);
            CHECK.due(yards[i], x.high(), height);
            x.blocks(height);
            CHECK.due("so high he can", x.quick(0) == NONE ? 0 : 1, 1);
            x.blocks(height + 1);
            CHECK.due("higher he cannot", x.quick(0), NONE);
        }
    }

    private static void highNone() {
        CHECK.sentence("13: none, if with none");
        CHECK.due("bbbbbbb", Check.yard("bbbbbbb;9").high(), NONE);
        CHECK.due("bbbbbbbbbbbb", Check.yard("bbbbbbbbbbbb;1").high(), NONE);
        CHECK.due("oooooooooooo", Check.yard("oooooooooooo;1").high(), NONE);
    }

    private static void highFromPlaceZero() {
        CHECK.sentence("13: from PLACE 0 with a SWAY of 0, not from now");
        StiltYard x = Check.yard("bbbbbbb;1");
        x.lay(1, 0);
        x.step(1);
        x.lay(1, 3);
        CHECK.due("from now he can, 1 and 10", x.quick(0), 2);
        CHECK.due("from place 0 he cannot", x.high(), NONE);
        StiltYard y = Check.yard("bbbb;6");
        y.step(1);
        y.step(0);
        CHECK.due("from now he cannot", y.quick(0), NONE);
        CHECK.due("from place 0 he can", y.high(), 6);
    }

    private static void highWhateverTheHeightIs() {
        CHECK.sentence("13: HIGH, whatever the HEIGHT is");
        for (int height = 1; height <= 9; height++) {
            CHECK.due("oooo;" + height, Check.yard("oooo;" + height).high(), 7);
        }
    }

    private static void highWithoutAYard() {
        CHECK.sentence("13: STATE: no YARD");
        CHECK.refused("high()", new StiltYard(), StiltYard::high, STATE);
        CHECK.refused("high()", Check.page("pppp;5"), StiltYard::high, STATE);
    }

    private static void highChangesNothing() {
        CHECK.sentence("13: high changes nothing");
        StiltYard x = Check.yard("oooo;5");
        x.step(1);
        CHECK.due("high()", x.high(), 7);
        CHECK.counts("behind", x, 4, 5, 1, 3, 1, 0, 7, 0, 0, 0, 1, 0);
    }

    // ---- 14: mend

    private static void mendTheLeastOfLikeOnes() {
        CHECK.sentence("14: of like ones the least");
        // bears 9; in brooks 6 and 6; place 3 or place 6 spares 3
        mend("bbbbbbb;3", Check.yard("bbbbbbb;3"), 3, 2);
    }

    private static void mendTheFewestSteps() {
        CHECK.sentence("14: the END is reached in fewest STEPS: a greater PLACE, if in fewer");
        // bears 4: a plain place 1 or 2 lets him rest, the plain end is reached at once
        mend("oooo;8", Check.yard("oooo;8"), 3, 1);
        StiltYard x = Check.yard("oooo;8");
        x.lay(1, 0);
        CHECK.due("place 1 would do, too", x.quick(0) == NONE ? 0 : 1, 1);
    }

    private static void mendByOneStepFewer() {
        CHECK.sentence("14: in fewer than now: by one");
        StiltYard x = Check.yard("pppb;7");
        CHECK.due("now", x.quick(0), 2);
        mend("pppb;7", x, 3, 1);
    }

    private static void mendNoneInFewer() {
        CHECK.sentence("14: none, if by none in fewer than now");
        mend("all is plain", Check.yard("pppppppppppp;9"), NONE, NONE);
        mend("one step now", Check.yard("oooo;7"), NONE, NONE);
        mend("place 0 is of no use", Check.yard("bppp;9"), NONE, NONE);
        // 5 places want two steps, whatever lies there
        mend("two steps now", Check.yard("gggggg;1"), NONE, NONE);
    }

    private static void mendWhereItCannotBeNow() {
        CHECK.sentence("14: where it cannot be now: if it can be by one");
        StiltYard x = Check.yard("oooo;9");
        CHECK.due("now", x.quick(0), NONE);
        mend("oooo;9", x, 3, 1);
    }

    private static void mendCanBeByNone() {
        CHECK.sentence("14: or where it cannot be now, if it can be by none");
        mend("bbbbbbbbbbbb;9", Check.yard("bbbbbbbbbbbb;9"), NONE, NONE);
        mend("oooooooo;9", Check.yard("oooooooo;9"), NONE, NONE);
    }

    private static void mendTheLastPlace() {
        CHECK.sentence("14: which PLACE: the last");
        // a plain yard wants 9 steps; the brook ahead of its end a step of 1 more
        mend("pppppppppppb;9", Check.yard("pppppppppppb;9"), 11, 9);
    }

    private static void mendFromPlaceZero() {
        CHECK.sentence("14: from PLACE 0 with a SWAY of 0, not from now");
        StiltYard x = Check.yard("pppb;7");
        x.step(2);
        mend("at place 2", x, 3, 1);
        x.step(1);
        mend("at the end", x, 3, 1);
    }

    private static void mendHeightAsItIs() {
        CHECK.sentence("14: HEIGHT as it is");
        StiltYard x = Check.yard("pppb;7");
        x.blocks(6);
        mend("lower: 6 is borne", x, NONE, NONE);
        x.blocks(9);
        mend("higher", x, 3, 1);
    }

    private static void mendOutside() {
        CHECK.sentence("14: OUTSIDE");
        StiltYard x = Check.yard("oooo;9");
        for (int what : new int[] {LEAST, -1, 2, 3, MOST}) {
            CHECK.refused("mend(" + what + ")", x, y -> y.mend(what), OUTSIDE);
        }
        mend("the bounds", x, 3, 1);
    }

    private static void mendWithoutAYard() {
        CHECK.sentence("14: STATE: no YARD");
        StiltYard x = Check.page("pppp;5");
        CHECK.refused("mend(0)", x, y -> y.mend(0), STATE);
        CHECK.refused("mend(1)", x, y -> y.mend(1), STATE);
    }

    private static void mendOutsideAheadOfState() {
        CHECK.sentence("14: OUTSIDE; STATE: of several the first");
        StiltYard x = new StiltYard();
        CHECK.refused("mend(-1)", x, y -> y.mend(-1), OUTSIDE);
        CHECK.refused("mend(2)", x, y -> y.mend(2), OUTSIDE);
    }

    private static void mendWhatIsMended() {
        CHECK.sentence("14: none, if by none in fewer than now: nor what an earlier mend() told");
        StiltYard x = Check.yard("oooo;9");
        mend("ahead", x, 3, 1);
        x.lay(3, 0);
        mend("mended", x, NONE, NONE);
    }

    private static void mendChangesNothing() {
        CHECK.sentence("14: which PLACE to make plain GROUND: it is not made so");
        StiltYard x = Check.yard("oooo;9");
        x.step(1);
        mend("oooo;9", x, 3, 1);
        CHECK.counts("behind", x, 4, 9, 1, 3, 1, 0, 3, 0, 0, 0, 1, 0);
        for (int place = 0; place < 4; place++) {
            CHECK.due("about(" + place + ", 0)", x.about(place, 0), 4);
        }
    }

    private static void mendIsAsLay() {
        CHECK.sentence("14: 0 which PLACE, 1 in how few STEPS then: as by lay() and quick()");
        String[] yards = {"plgbop;6", "gggggggggggg;9", "lbolbolbolbo;4", "gogogogogogo;7", "bbbbpbbbb;2", "lgbo;9"};
        for (String text : yards) {
            StiltYard x = Check.yard(text);
            int best = x.quick(0);
            int which = NONE;
            int steps = NONE;
            for (int place = 0; place < x.count(0); place++) {
                int was = x.lay(place, 0);
                int fewest = x.quick(0);
                x.lay(place, was);
                if (fewest != NONE && (best == NONE || fewest < best)) {
                    best = fewest;
                    which = place;
                    steps = fewest;
                }
            }
            mend(text, x, which, steps);
        }
    }
}
