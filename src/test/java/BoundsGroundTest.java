/** The boundary cases of promises 6 to 8, one function for each sentence. */
public final class BoundsGroundTest {
    private static final Check CHECK = new Check("BoundsGroundTest");
    private static final int NONE = StiltYard.NONE;
    private static final int UNKNOWN = StiltYard.UNKNOWN;
    private static final int OUTSIDE = StiltYard.OUTSIDE;
    private static final int LEAST = Integer.MIN_VALUE;
    private static final int MOST = Integer.MAX_VALUE;
    /** How the sway grows by a step of 1, 2 and 3, by the kind. */
    private static final int[][] GROWS = {{1, 2, 3}, {2, 3, 4}, {3, 4, 5}, {2, 4, 6}, {3, 4, 5}};

    public static void main(String[] args) {
        aboutKind();
        aboutStepOf1();
        aboutStepOf2();
        aboutStepOf3();
        aboutOnTheSpot();
        aboutDoesNotLookAtHim();
        aboutTryOfAll();
        aboutTryOfTheLowest();
        aboutTryOfTheHighest();
        aboutTryOfOne();
        aboutTryOfNone();
        aboutTryTheLeastOfLikeOnes();
        aboutUnknown();
        aboutOutside();
        aboutUnknownAheadOfOutside();
        aboutWithoutAYard();
        aboutChangesNothing();
        allAreGround();
        aBogIsALawn();
        theOthersAreThemselves();
        asAtTheFirstAndTheLast();
        asUnknown();
        asOutside();
        asUnknownAheadOfOutside();
        asWithoutAYard();
        asChangesNothing();
        layAnswersWhatItWas();
        layAtTheFirstAndTheLast();
        layTheSame();
        layUnderHim();
        layUnknown();
        layOutside();
        layUnknownAheadOfOutside();
        layWithoutAYard();
        CHECK.end();
    }

    // ---- 6: about

    private static void aboutKind() {
        CHECK.sentence("6: what = 0 KIND");
        StiltYard x = Check.yard("plgbo;5");
        for (int kind = 0; kind <= 4; kind++) {
            CHECK.due("about(" + kind + ", 0)", x.about(kind, 0), kind);
        }
    }

    private static void aboutSteps(int far) {
        StiltYard x = Check.yard("plgbo;5");
        for (int kind = 0; kind <= 4; kind++) {
            CHECK.due("about(" + kind + ", " + far + ")", x.about(kind, far), GROWS[kind][far - 1]);
        }
    }

    private static void aboutStepOf1() {
        CHECK.sentence("6: 1 by how much the SWAY grows by a STEP of 1 there");
        aboutSteps(1);
    }

    private static void aboutStepOf2() {
        CHECK.sentence("6: 2 of 2");
        aboutSteps(2);
    }

    private static void aboutStepOf3() {
        CHECK.sentence("6: 3 of 3");
        aboutSteps(3);
    }

    private static void aboutOnTheSpot() {
        CHECK.sentence("6: 4 by how much it grows on the spot there, and 2 (0: it is by 2 less)");
        StiltYard x = Check.yard("plgbo;5");
        int[] want = {0, 1, 0, 3, 2};
        for (int kind = 0; kind <= 4; kind++) {
            CHECK.due("about(" + kind + ", 4)", x.about(kind, 4), want[kind]);
        }
    }

    private static void aboutDoesNotLookAtHim() {
        CHECK.sentence("6: Of a PLACE: wherever he is, with whatever SWAY and HEIGHT");
        StiltYard x = Check.yard("plgbo;1");
        // at place 0 his sway is 0 and cannot be less; at place 4 no step leads to place 0
        for (int far : new int[] {0, 1, 3}) {
            x.step(far);
            CHECK.due("about(0, 4)", x.about(0, 4), 0);
            CHECK.due("about(0, 3)", x.about(0, 3), 3);
            CHECK.due("about(4, 1)", x.about(4, 1), 3);
        }
        CHECK.due("he is at the end", x.count(2), 4);
        x.blocks(9);
        CHECK.due("about(3, 3): more than he bears", x.about(3, 3), 6);
    }

    /** 9 heights: 5 and 4 at best, first when a sway of 7 is reached (6 to 9 fall). */
    private static void aboutTryOfAll() {
        CHECK.sentence("6: 5 TRY, nothing HEARD");
        StiltYard x = Check.yard("plgbo;5");
        int[] want = {6, 5, 4, 5, 4};
        for (int kind = 0; kind <= 4; kind++) {
            CHECK.due("about(" + kind + ", 5)", x.about(kind, 5), want[kind]);
        }
    }

    /** 1 and 2 are told apart by 11 alone, the greatest sway that tells anything. */
    private static void aboutTryOfTheLowest() {
        CHECK.sentence("6: 5 TRY, the greatest");
        StiltYard x = Check.yard("plgbo;5");
        x.hear(0, 1, 9, false);
        CHECK.due("heights()", x.heights(), 3);
        int[] want = {10, 9, 8, 9, 8};
        for (int kind = 0; kind <= 4; kind++) {
            CHECK.due("about(" + kind + ", 5)", x.about(kind, 5), want[kind]);
        }
    }

    /** 8 and 9 are told apart by 4 alone, the least sway that tells anything. */
    private static void aboutTryOfTheHighest() {
        CHECK.sentence("6: 5 TRY, the least");
        StiltYard x = Check.yard("plgbo;5");
        x.hear(0, 1, 4, true);
        CHECK.due("heights()", x.heights(), 128 + 256);
        int[] want = {3, 2, 1, 2, 1};
        for (int kind = 0; kind <= 4; kind++) {
            CHECK.due("about(" + kind + ", 5)", x.about(kind, 5), want[kind]);
        }
    }

    private static void aboutTryOfOne() {
        CHECK.sentence("6: 5 TRY, one HEIGHT left: all tell as much, 0 is the least");
        for (int height = 1; height <= 9; height++) {
            StiltYard x = Check.yard("plgbo;5");
            if (height < 9) {
                x.hear(0, 1, 11 - height, false);
            }
            if (height > 1) {
                x.hear(0, 1, 12 - height, true);
            }
            CHECK.due("heights()", x.heights(), 1 << (height - 1));
            for (int kind = 0; kind <= 4; kind++) {
                CHECK.due("height " + height + " about(" + kind + ", 5)", x.about(kind, 5), 0);
            }
        }
    }

    private static void aboutTryOfNone() {
        CHECK.sentence("6: 5 TRY (NONE); none, if there are none");
        StiltYard x = Check.yard("plgbo;5");
        x.hear(0, 1, 2, true);
        CHECK.due("heights()", x.heights(), 0);
        for (int kind = 0; kind <= 4; kind++) {
            CHECK.due("about(" + kind + ", 5)", x.about(kind, 5), NONE);
        }
        x.forget();
        CHECK.due("about(0, 5) behind forget()", x.about(0, 5), 6);
    }

    /** Of three heights one can fall and two not, or two and one not: two are left at worst both times. */
    private static void aboutTryTheLeastOfLikeOnes() {
        CHECK.sentence("TRY: of like ones the least");
        StiltYard x = Check.yard("pppp;5");
        x.hear(0, 1, 8, false);
        CHECK.due("heights 1 to 3", x.heights(), 7);
        CHECK.due("10 makes one fall, 11 two", x.about(0, 5), 9);
        x.forget();
        x.hear(0, 1, 5, true);
        CHECK.due("heights 7 to 9", x.heights(), 64 + 128 + 256);
        CHECK.due("4 makes one fall, 5 two", x.about(0, 5), 3);
    }

    private static void aboutUnknown() {
        CHECK.sentence("6: UNKNOWN");
        StiltYard x = Check.yard("plgbo;5");
        for (int place : new int[] {LEAST, -1, 5, 11, 12, MOST}) {
            CHECK.refused("about(" + place + ", 0)", x, y -> y.about(place, 0), UNKNOWN);
        }
        CHECK.due("about(0, 0)", x.about(0, 0), 0);
        CHECK.due("about(4, 0)", x.about(4, 0), 4);
        StiltYard most = Check.yard("pppppppppppl;5");
        CHECK.due("about(11, 0)", most.about(11, 0), 1);
        CHECK.refused("about(12, 0)", most, y -> y.about(12, 0), UNKNOWN);
    }

    private static void aboutOutside() {
        CHECK.sentence("6: OUTSIDE");
        StiltYard x = Check.yard("plgbo;5");
        for (int what : new int[] {LEAST, -1, 6, MOST}) {
            CHECK.refused("about(3, " + what + ")", x, y -> y.about(3, what), OUTSIDE);
        }
        CHECK.due("about(3, 0)", x.about(3, 0), 3);
        CHECK.due("about(3, 5)", x.about(3, 5), 5);
    }

    private static void aboutUnknownAheadOfOutside() {
        CHECK.sentence("6: UNKNOWN; OUTSIDE: of several the first");
        StiltYard x = Check.yard("plgbo;5");
        CHECK.refused("about(5, 6)", x, y -> y.about(5, 6), UNKNOWN);
        CHECK.refused("about(-1, -1)", x, y -> y.about(-1, -1), UNKNOWN);
    }

    private static void aboutWithoutAYard() {
        CHECK.sentence("6: UNKNOWN, no YARD");
        StiltYard x = Check.page("pppp;5");
        for (int what = -1; what <= 6; what++) {
            int asked = what;
            CHECK.refused("about(0, " + what + ")", x, y -> y.about(0, asked), UNKNOWN);
        }
    }

    private static void aboutChangesNothing() {
        CHECK.sentence("6: about changes nothing");
        StiltYard x = Check.yard("plgbo;5");
        x.step(2);
        x.hear(0, 1, 4, true);
        long ahead = x.digest();
        for (int what = 0; what <= 5; what++) {
            x.about(2, what);
        }
        CHECK.due("digest()", x.digest(), ahead);
    }

    // ---- 7: as

    private static void allAreGround() {
        CHECK.sentence("7: All are GROUND");
        StiltYard x = Check.yard("plgbo;5");
        for (int place = 0; place <= 4; place++) {
            CHECK.due("as(" + place + ", 0)", x.as(place, 0), place);
        }
    }

    private static void aBogIsALawn() {
        CHECK.sentence("7: a BOG is a LAWN, too");
        StiltYard x = Check.yard("plgbo;5");
        CHECK.due("a bog as a lawn", x.as(4, 1), 4);
        CHECK.due("a bog as a bog", x.as(4, 4), 4);
        CHECK.due("a lawn as a bog", x.as(1, 4), NONE);
        CHECK.due("a bog as gravel, though it grows as much", x.as(4, 2), NONE);
    }

    private static void theOthersAreThemselves() {
        CHECK.sentence("7: NONE: it is none such (the cast fails)");
        StiltYard x = Check.yard("plgbo;5");
        for (int place = 0; place <= 4; place++) {
            for (int kind = 1; kind <= 4; kind++) {
                boolean such = place == kind || place == 4 && kind == 1;
                CHECK.due("as(" + place + ", " + kind + ")", x.as(place, kind), such ? place : NONE);
            }
        }
    }

    private static void asAtTheFirstAndTheLast() {
        CHECK.sentence("7: the PLACE");
        StiltYard x = Check.yard("oppppppppppo;5");
        CHECK.due("as(0, 1)", x.as(0, 1), 0);
        CHECK.due("as(11, 1)", x.as(11, 1), 11);
        CHECK.due("as(1, 1)", x.as(1, 1), NONE);
        CHECK.due("as(10, 1)", x.as(10, 1), NONE);
    }

    private static void asUnknown() {
        CHECK.sentence("7: UNKNOWN");
        StiltYard x = Check.yard("plgbo;5");
        for (int place : new int[] {LEAST, -1, 5, 11, 12, MOST}) {
            CHECK.refused("as(" + place + ", 0)", x, y -> y.as(place, 0), UNKNOWN);
        }
    }

    private static void asOutside() {
        CHECK.sentence("7: OUTSIDE");
        StiltYard x = Check.yard("plgbo;5");
        for (int kind : new int[] {LEAST, -1, 5, MOST}) {
            CHECK.refused("as(0, " + kind + ")", x, y -> y.as(0, kind), OUTSIDE);
            CHECK.refused("as(4, " + kind + ")", x, y -> y.as(4, kind), OUTSIDE);
        }
    }

    private static void asUnknownAheadOfOutside() {
        CHECK.sentence("7: UNKNOWN; OUTSIDE: of several the first");
        StiltYard x = Check.yard("plgbo;5");
        CHECK.refused("as(5, 5)", x, y -> y.as(5, 5), UNKNOWN);
        CHECK.refused("as(-1, -1)", x, y -> y.as(-1, -1), UNKNOWN);
    }

    private static void asWithoutAYard() {
        CHECK.sentence("7: UNKNOWN, no YARD");
        StiltYard x = Check.page("pppp;5");
        for (int kind = -1; kind <= 5; kind++) {
            int asked = kind;
            CHECK.refused("as(0, " + kind + ")", x, y -> y.as(0, asked), UNKNOWN);
        }
    }

    private static void asChangesNothing() {
        CHECK.sentence("7: as changes nothing");
        StiltYard x = Check.yard("plgbo;5");
        long ahead = x.digest();
        for (int kind = 0; kind <= 4; kind++) {
            x.as(4, kind);
        }
        CHECK.due("digest()", x.digest(), ahead);
    }

    // ---- 8: lay

    private static void layAnswersWhatItWas() {
        CHECK.sentence("8: The GROUND of a PLACE becomes of a KIND: of which it was");
        for (int from = 0; from <= 4; from++) {
            for (int to = 0; to <= 4; to++) {
                StiltYard x = Check.yard("plgbo;5");
                CHECK.due("lay(" + from + ", " + to + ")", x.lay(from, to), from);
                for (int place = 0; place <= 4; place++) {
                    CHECK.due("about(" + place + ", 0)", x.about(place, 0), place == from ? to : place);
                }
                CHECK.due("lay back", x.lay(from, from), to);
            }
        }
    }

    private static void layAtTheFirstAndTheLast() {
        CHECK.sentence("8: a PLACE: the first and the last");
        StiltYard x = Check.yard("pppppppppppp;5");
        CHECK.due("lay(0, 4)", x.lay(0, 4), 0);
        CHECK.due("lay(11, 3)", x.lay(11, 3), 0);
        CHECK.due("about(0, 0)", x.about(0, 0), 4);
        CHECK.due("about(11, 0)", x.about(11, 0), 3);
        CHECK.due("count(7)", x.count(7), 10);
    }

    private static void layTheSame() {
        CHECK.sentence("8: a KIND that it is of: nothing changes");
        StiltYard x = Check.yard("plgbo;5");
        long ahead = x.digest();
        for (int kind = 0; kind <= 4; kind++) {
            CHECK.due("lay(" + kind + ", " + kind + ")", x.lay(kind, kind), kind);
        }
        CHECK.due("digest()", x.digest(), ahead);
    }

    private static void layUnderHim() {
        CHECK.sentence("8: the GROUND alone: he stays with his SWAY");
        StiltYard x = Check.yard("pppp;9");
        x.step(3);
        CHECK.due("lay(3, 3)", x.lay(3, 3), 0);
        CHECK.counts("behind", x, 4, 9, 3, 3, 1, 0, 3, 3, 0, 0, 1, 0);
        CHECK.due("would(0)", x.would(0), 4);
        CHECK.due("lay(3, 4)", x.lay(3, 4), 3);
        CHECK.due("would(0)", x.would(0), 3);
    }

    private static void layUnknown() {
        CHECK.sentence("8: UNKNOWN: place");
        StiltYard x = Check.yard("plgbo;5");
        for (int place : new int[] {LEAST, -1, 5, 11, 12, MOST}) {
            CHECK.refused("lay(" + place + ", 0)", x, y -> y.lay(place, 0), UNKNOWN);
        }
    }

    private static void layOutside() {
        CHECK.sentence("8: OUTSIDE: kind");
        StiltYard x = Check.yard("plgbo;5");
        for (int kind : new int[] {LEAST, -1, 5, MOST}) {
            CHECK.refused("lay(2, " + kind + ")", x, y -> y.lay(2, kind), OUTSIDE);
        }
        CHECK.due("lay(2, 4)", x.lay(2, 4), 2);
        CHECK.due("lay(2, 0)", x.lay(2, 0), 4);
    }

    private static void layUnknownAheadOfOutside() {
        CHECK.sentence("8: UNKNOWN; OUTSIDE: of several the first");
        StiltYard x = Check.yard("plgbo;5");
        CHECK.refused("lay(5, 5)", x, y -> y.lay(5, 5), UNKNOWN);
        CHECK.refused("lay(-1, -1)", x, y -> y.lay(-1, -1), UNKNOWN);
    }

    private static void layWithoutAYard() {
        CHECK.sentence("8: UNKNOWN, no YARD");
        StiltYard x = Check.page("pppp;5");
        CHECK.refused("lay(0, 0)", x, y -> y.lay(0, 0), UNKNOWN);
        CHECK.refused("lay(0, 5)", x, y -> y.lay(0, 5), UNKNOWN);
        x.yard();
        CHECK.due("nothing was laid", x.count(7), 4);
    }
}
