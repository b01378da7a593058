/** The boundary cases of steps in "Terms" and of promises 9 to 11, one function for each sentence. */
public final class BoundsStepsTest {
    private static final Check CHECK = new Check("BoundsStepsTest");
    private static final int NONE = StiltYard.NONE;
    private static final int OUTSIDE = StiltYard.OUTSIDE;
    private static final int STATE = StiltYard.STATE;
    private static final int LEAST = Integer.MIN_VALUE;
    private static final int MOST = Integer.MAX_VALUE;
    /** How the sway grows by a step of 1, 2 and 3, by the kind. */
    private static final int[][] GROWS = {{1, 2, 3}, {2, 3, 4}, {3, 4, 5}, {2, 4, 6}, {3, 4, 5}};

    public static void main(String[] args) {
        growsByWhereItLeads();
        growsOnWhatThereIs();
        twoLessButZeroAtLeast();
        oneLessOnALawnButZeroAtLeast();
        staysOnABog();
        growsInABrook();
        bearsJustSoMuch();
        fallsByAStepFar();
        fallsAtTheEnd();
        fallIsToPlaceZero();
        fallsWhereHeStands();
        endOnTheSpotAlone();
        blocksFrom1();
        blocksTo9();
        blocksBackToPlaceZero();
        blocksOfTheSameHeight();
        blocksLeavesTheRest();
        blocksWithoutAYard();
        blocksOutsideAheadOfState();
        stepOutside();
        stepOutsideAheadOfState();
        stepWithoutAYard();
        stepToNoSuchPlace();
        stepToTheLastPlace();
        stepRefusedThoughHeWouldFall();
        stepsAreCounted();
        wouldOutside();
        wouldOutsideAheadOfState();
        wouldWithoutAYard();
        wouldToNoSuchPlace();
        wouldTellsOfAFall();
        wouldChangesNothing();
        wouldIsWhatStepDoes();
        CHECK.end();
    }

    /** One at place 0, with so much sway, on ground that is plain again then. */
    private static StiltYard swaying(String text, int sway) {
        StiltYard x = Check.yard(text);
        int was = x.lay(0, 3);
        for (int i = 0; i < sway; i++) {
            x.step(0);
        }
        x.lay(0, was);
        if (x.count(3) != sway) {
            throw new IllegalStateException("no sway of " + sway);
        }
        return x;
    }

    // ---- terms

    private static void growsByWhereItLeads() {
        CHECK.sentence("By one that is farther than 0 the SWAY grows by as many as it is far, and by what the GROUND is");
        for (int kind = 0; kind <= 4; kind++) {
            for (int far = 1; far <= 3; far++) {
                for (int sway = 0; sway <= 5; sway++) {
                    StiltYard x = swaying("pppp;1", sway);
                    x.lay(far, kind);
                    int due = sway + GROWS[kind][far - 1];
                    String call = "kind " + kind + ", sway " + sway + ", ";
                    CHECK.due(call + "would(" + far + ")", x.would(far), due);
                    CHECK.due(call + "step(" + far + ")", x.step(far), far);
                    CHECK.due(call + "count(3)", x.count(3), due);
                }
            }
        }
    }

    private static void growsOnWhatThereIs() {
        CHECK.sentence("what the GROUND is where it leads: not where it comes from, nor what lies between");
        StiltYard x = Check.yard("bobpp;1");
        CHECK.due("would(3)", x.would(3), 3);
        x.step(3);
        CHECK.due("would(1)", x.would(1), 4);
    }

    private static void onTheSpot(int kind, int sway, int due) {
        StiltYard x = swaying("pppp;1", sway);
        x.lay(0, kind);
        CHECK.due("kind " + kind + ", sway " + sway + ", would(0)", x.would(0), due);
        CHECK.due("kind " + kind + ", sway " + sway + ", step(0)", x.step(0), 0);
        CHECK.due("kind " + kind + ", sway " + sway + ", count(3)", x.count(3), due);
        CHECK.due("no fall", x.count(5), 0);
    }

    private static void twoLessButZeroAtLeast() {
        CHECK.sentence("On the spot the SWAY is by 2 less (0 at least)");
        for (int kind = 0; kind <= 2; kind += 2) {
            onTheSpot(kind, 0, 0);
            onTheSpot(kind, 1, 0);
            onTheSpot(kind, 2, 0);
            onTheSpot(kind, 3, 1);
            onTheSpot(kind, 11, 9);
        }
    }

    private static void oneLessOnALawnButZeroAtLeast() {
        CHECK.sentence("on a LAWN, where a tip goes in, by 1 less");
        onTheSpot(1, 0, 0);
        onTheSpot(1, 1, 0);
        onTheSpot(1, 2, 1);
        onTheSpot(1, 11, 10);
    }

    private static void staysOnABog() {
        CHECK.sentence("on a BOG it stays");
        onTheSpot(4, 0, 0);
        onTheSpot(4, 1, 1);
        onTheSpot(4, 11, 11);
    }

    private static void growsInABrook() {
        CHECK.sentence("in a BROOK, where it drags, it grows by 1");
        onTheSpot(3, 0, 1);
        onTheSpot(3, 10, 11);
        StiltYard x = swaying("pppp;1", 11);
        x.lay(0, 3);
        CHECK.due("would(0) with 11", x.would(0), 12);
        CHECK.due("step(0) with 11", x.step(0), NONE);
    }

    private static void bearsJustSoMuch() {
        CHECK.sentence("He BEARS a SWAY of 12 less the HEIGHT; when it is more, he FALLS");
        for (int height = 1; height <= 9; height++) {
            StiltYard x = swaying("bppp;" + height, 11 - height);
            CHECK.due("height " + height + " bears", x.count(6), 12 - height);
            CHECK.due("as much as he bears", x.step(0), 0);
            CHECK.due("count(3)", x.count(3), 12 - height);
            CHECK.due("one more", x.step(0), NONE);
            CHECK.due("falls", x.count(5), 1);
        }
    }

    private static void fallsByAStepFar() {
        CHECK.sentence("when it is more, he FALLS: by a STEP of 1, 2, 3");
        for (int kind = 0; kind <= 4; kind++) {
            for (int far = 1; far <= 3; far++) {
                int grows = GROWS[kind][far - 1];
                StiltYard just = swaying("ppppp;5", 7 - grows);
                just.lay(far, kind);
                CHECK.due("kind " + kind + ", step(" + far + ") to 7", just.step(far), far);
                StiltYard more = swaying("ppppp;5", 8 - grows);
                more.lay(far, kind);
                CHECK.due("kind " + kind + ", step(" + far + ") to 8", more.step(far), NONE);
            }
        }
    }

    private static void fallsAtTheEnd() {
        CHECK.sentence("when it is more, he FALLS: at the END, too");
        StiltYard x = Check.yard("pppo;8");
        CHECK.due("step(3)", x.step(3), NONE);
        CHECK.counts("behind", x, 4, 8, 0, 0, 1, 1);
        StiltYard y = Check.yard("pppp;9");
        y.step(3);
        y.lay(3, 3);
        CHECK.due("step(0) at the end", y.step(0), NONE);
        CHECK.counts("behind", y, 4, 9, 0, 0, 2, 1);
    }

    private static void fallIsToPlaceZero() {
        CHECK.sentence("he is at PLACE 0 again, with a SWAY of 0");
        StiltYard x = Check.yard("gppppp;8");
        x.step(2);
        x.step(1);
        CHECK.due("step(2)", x.step(2), NONE);
        CHECK.counts("behind", x, 6, 8, 0, 0, 3, 1, 4, 5, 0, 0, 1, 0);
        CHECK.due("he goes on from there", x.step(3), 3);
        CHECK.due("count(3)", x.count(3), 3);
    }

    private static void fallsWhereHeStands() {
        CHECK.sentence("he FALLS on the spot at PLACE 0, too");
        StiltYard x = Check.yard("bppp;9");
        for (int n = 1; n <= 3; n++) {
            for (int i = 0; i < 3; i++) {
                CHECK.due("step(0)", x.step(0), 0);
            }
            CHECK.due("step(0)", x.step(0), NONE);
            CHECK.counts("fall " + n, x, 4, 9, 0, 0, 4 * n, n);
        }
    }

    private static void endOnTheSpotAlone() {
        CHECK.sentence("The last PLACE is the END; from there he makes STEPS on the spot alone");
        for (int places = 4; places <= 12; places++) {
            StiltYard x = Check.yard(Check.times(places, 'p') + ";1");
            Check.walk(x, places - 1);
            CHECK.due("step(0)", x.step(0), places - 1);
            for (int far = 1; far <= 3; far++) {
                int asked = far;
                CHECK.refused("step(" + far + ")", x, y -> y.step(asked), STATE);
                CHECK.refused("would(" + far + ")", x, y -> y.would(asked), STATE);
            }
        }
    }

    // ---- 9: blocks

    private static void blocksFrom1() {
        CHECK.sentence("9: OUTSIDE: height (1 to 9), below");
        StiltYard x = Check.yard("pppp;5");
        x.step(2);
        for (int height : new int[] {LEAST, -1, 0}) {
            CHECK.refused("blocks(" + height + ")", x, y -> y.blocks(height), OUTSIDE);
        }
        CHECK.due("blocks(1)", x.blocks(1), 5);
        CHECK.due("count(1)", x.count(1), 1);
        CHECK.due("count(6)", x.count(6), 11);
    }

    private static void blocksTo9() {
        CHECK.sentence("9: OUTSIDE: height (1 to 9), above");
        StiltYard x = Check.yard("pppp;5");
        x.step(2);
        for (int height : new int[] {10, 11, 12, 256 + 5, MOST}) {
            CHECK.refused("blocks(" + height + ")", x, y -> y.blocks(height), OUTSIDE);
        }
        CHECK.due("blocks(9)", x.blocks(9), 5);
        CHECK.due("count(1)", x.count(1), 9);
        CHECK.due("count(6)", x.count(6), 3);
    }

    private static void blocksBackToPlaceZero() {
        CHECK.sentence("9: how high they were; he is at PLACE 0 with a SWAY of 0 then");
        StiltYard x = Check.yard("pppp;1");
        int was = 1;
        for (int height = 9; height >= 1; height--) {
            x.step(3);
            CHECK.due("blocks(" + height + ")", x.blocks(height), was);
            CHECK.due("count(2)", x.count(2), 0);
            CHECK.due("count(3)", x.count(3), 0);
            was = height;
        }
    }

    private static void blocksOfTheSameHeight() {
        CHECK.sentence("9: as high as they were: at PLACE 0 all the same");
        StiltYard x = Check.yard("pppp;5");
        x.step(2);
        CHECK.due("blocks(5)", x.blocks(5), 5);
        CHECK.counts("behind", x, 4, 5, 0, 0, 1, 0, 7, 4, 0, 0, 1, 0);
    }

    private static void blocksLeavesTheRest() {
        CHECK.sentence("9: STEPS, FALLS, GROUND and what is HEARD stay");
        StiltYard x = Check.yard("plgb;9");
        x.step(3);
        x.step(1);
        x.hear(0, 1, 4, true);
        Check.write(x, "pp");
        x.quick(0);
        CHECK.counts("ahead", x, 4, 9, 1, 2, 2, 1, 3, 1, 1, 2, 1, 1);
        CHECK.due("blocks(2)", x.blocks(2), 9);
        CHECK.counts("behind", x, 4, 2, 0, 0, 2, 1, 10, 1, 1, 2, 1, 1);
        CHECK.due("heights() know nothing of it", x.heights(), 128 + 256);
    }

    private static void blocksWithoutAYard() {
        CHECK.sentence("9: STATE: no YARD");
        StiltYard x = Check.page("pppp;5");
        CHECK.refused("blocks(1)", x, y -> y.blocks(1), STATE);
        CHECK.refused("blocks(9)", x, y -> y.blocks(9), STATE);
        x.yard();
        CHECK.due("count(1)", x.count(1), 5);
    }

    private static void blocksOutsideAheadOfState() {
        CHECK.sentence("9: OUTSIDE; STATE: of several the first");
        StiltYard x = new StiltYard();
        CHECK.refused("blocks(0)", x, y -> y.blocks(0), OUTSIDE);
        CHECK.refused("blocks(10)", x, y -> y.blocks(10), OUTSIDE);
    }

    // ---- 10: step

    private static void stepOutside() {
        CHECK.sentence("10: OUTSIDE: far (0 to 3)");
        StiltYard x = Check.yard("pppppppppppp;1");
        x.step(2);
        for (int far : new int[] {LEAST, -2, -1, 4, 5, MOST}) {
            CHECK.refused("step(" + far + ")", x, y -> y.step(far), OUTSIDE);
        }
        CHECK.due("step(0)", x.step(0), 2);
        CHECK.due("step(3)", x.step(3), 5);
    }

    private static void stepOutsideAheadOfState() {
        CHECK.sentence("10: OUTSIDE; STATE: of several the first");
        StiltYard none = new StiltYard();
        CHECK.refused("step(4), no yard", none, y -> y.step(4), OUTSIDE);
        CHECK.refused("step(-1), no yard", none, y -> y.step(-1), OUTSIDE);
        StiltYard end = Check.yard("pppp;1");
        end.step(3);
        CHECK.refused("step(4) at the end", end, y -> y.step(4), OUTSIDE);
        CHECK.refused("step(-1) at the end", end, y -> y.step(-1), OUTSIDE);
        CHECK.refused("step(MOST) at the end", end, y -> y.step(MOST), OUTSIDE);
    }

    private static void stepWithoutAYard() {
        CHECK.sentence("10: STATE: no YARD");
        StiltYard x = Check.page("pppp;5");
        for (int far = 0; far <= 3; far++) {
            int asked = far;
            CHECK.refused("step(" + far + ")", x, y -> y.step(asked), STATE);
        }
        x.yard();
        CHECK.due("count(4)", x.count(4), 0);
    }

    private static void stepToNoSuchPlace() {
        CHECK.sentence("10: STATE: there is no such PLACE");
        for (int places = 4; places <= 12; places++) {
            StiltYard x = Check.yard(Check.times(places, 'p') + ";1");
            Check.walk(x, places - 3);
            CHECK.refused("step(3), two ahead of the end", x, y -> y.step(3), STATE);
            x.step(1);
            CHECK.refused("step(3), one ahead of the end", x, y -> y.step(3), STATE);
            CHECK.refused("step(2), one ahead of the end", x, y -> y.step(2), STATE);
            CHECK.due("step(1)", x.step(1), places - 1);
            CHECK.refused("step(1), at the end", x, y -> y.step(1), STATE);
        }
    }

    private static void stepToTheLastPlace() {
        CHECK.sentence("10: at which PLACE he is then: the last one");
        for (int places = 4; places <= 12; places++) {
            for (int far = 1; far <= 3; far++) {
                StiltYard x = Check.yard(Check.times(places, 'p') + ";1");
                Check.walk(x, places - 1 - far);
                CHECK.due("step(" + far + ") of " + places, x.step(far), places - 1);
            }
        }
    }

    private static void stepRefusedThoughHeWouldFall() {
        CHECK.sentence("10: STATE, though the SWAY would be too much: nothing has changed");
        StiltYard x = Check.yard("pppp;9");
        x.step(2);
        CHECK.refused("step(2)", x, y -> y.step(2), STATE);
        CHECK.counts("behind", x, 4, 9, 2, 2, 1, 0);
        CHECK.due("step(1)", x.step(1), 3);
        CHECK.refused("step(1)", x, y -> y.step(1), STATE);
        CHECK.counts("behind", x, 4, 9, 3, 3, 2, 0);
    }

    private static void stepsAreCounted() {
        CHECK.sentence("21: 4 STEPS, 5 FALLS: on the spot and falling ones, too, refused ones not");
        StiltYard x = Check.yard("pppb;9");
        x.step(0);
        CHECK.due("on the spot", x.count(4), 1);
        x.step(2);
        CHECK.due("far", x.count(4), 2);
        x.step(3);
        CHECK.due("refused", x.count(4), 2);
        CHECK.due("no fall so far", x.count(5), 0);
        x.step(1);
        CHECK.due("falling", x.count(4), 3);
        CHECK.due("a fall", x.count(5), 1);
    }

    // ---- 11: would

    private static void wouldOutside() {
        CHECK.sentence("11: OUTSIDE: far (0 to 3)");
        StiltYard x = Check.yard("pppppppppppp;1");
        x.step(2);
        for (int far : new int[] {LEAST, -2, -1, 4, 5, MOST}) {
            CHECK.refused("would(" + far + ")", x, y -> y.would(far), OUTSIDE);
        }
        CHECK.due("would(0)", x.would(0), 0);
        CHECK.due("would(3)", x.would(3), 5);
    }

    private static void wouldOutsideAheadOfState() {
        CHECK.sentence("11: OUTSIDE; STATE: of several the first");
        StiltYard none = new StiltYard();
        CHECK.refused("would(4), no yard", none, y -> y.would(4), OUTSIDE);
        CHECK.refused("would(-1), no yard", none, y -> y.would(-1), OUTSIDE);
        StiltYard end = Check.yard("pppp;1");
        end.step(3);
        CHECK.refused("would(4) at the end", end, y -> y.would(4), OUTSIDE);
        CHECK.refused("would(MOST) at the end", end, y -> y.would(MOST), OUTSIDE);
    }

    private static void wouldWithoutAYard() {
        CHECK.sentence("11: STATE: no YARD");
        StiltYard x = Check.page("pppp;5");
        for (int far = 0; far <= 3; far++) {
            int asked = far;
            CHECK.refused("would(" + far + ")", x, y -> y.would(asked), STATE);
        }
    }

    private static void wouldToNoSuchPlace() {
        CHECK.sentence("11: STATE: there is no such PLACE");
        StiltYard x = Check.yard("pppp;1");
        x.step(1);
        CHECK.due("would(2)", x.would(2), 3);
        CHECK.refused("would(3)", x, y -> y.would(3), STATE);
        x.step(1);
        CHECK.due("would(1)", x.would(1), 3);
        CHECK.refused("would(2)", x, y -> y.would(2), STATE);
        x.step(1);
        CHECK.due("would(0)", x.would(0), 1);
        CHECK.refused("would(1)", x, y -> y.would(1), STATE);
    }

    private static void wouldTellsOfAFall() {
        CHECK.sentence("11: What the SWAY would be by it, whether he would FALL or not");
        StiltYard x = Check.yard("pppb;9");
        CHECK.due("would(2): he would not", x.would(2), 2);
        CHECK.due("would(3): he would", x.would(3), 6);
        StiltYard most = swaying("pppb;1", 11);
        CHECK.due("the most that there is", most.would(3), 17);
        CHECK.due("step(3)", most.step(3), NONE);
    }

    private static void wouldChangesNothing() {
        CHECK.sentence("11: would changes nothing");
        StiltYard x = Check.yard("plgbo;9");
        x.step(1);
        long ahead = x.digest();
        for (int far = 0; far <= 3; far++) {
            x.would(far);
        }
        CHECK.due("digest()", x.digest(), ahead);
    }

    private static void wouldIsWhatStepDoes() {
        CHECK.sentence("11: What the SWAY would be by it: what it is then, unless he falls");
        StiltYard x = Check.yard("plgboplgbopl;4");
        int[] fars = {1, 0, 2, 0, 0, 1, 3, 0, 1, 2, 3, 3, 0, 0, 2, 2, 0, 0, 1, 1};
        for (int far : fars) {
            int due = x.would(far);
            if (due < 0) {
                continue;
            }
            boolean falls = x.step(far) == NONE;
            CHECK.due("he falls by more than 8", falls ? 1 : 0, due > 8 ? 1 : 0);
            CHECK.due("count(3)", x.count(3), falls ? 0 : due);
        }
    }
}
