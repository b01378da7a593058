import java.math.BigInteger;

/** The boundary cases of what is heard and of races in "Terms" and of promises 15 to 18, one function for each sentence. */
public final class BoundsHeardTest {
    private static final Check CHECK = new Check("BoundsHeardTest");
    private static final int NONE = StiltYard.NONE;
    private static final int UNKNOWN = StiltYard.UNKNOWN;
    private static final int OUTSIDE = StiltYard.OUTSIDE;
    private static final int STATE = StiltYard.STATE;
    private static final int FULL = StiltYard.FULL;
    private static final int LEAST = Integer.MIN_VALUE;
    private static final int MOST = Integer.MAX_VALUE;
    private static final int ALL = 511;
    /** Seeds whose next seed draws 0, 1, 2 and 3. */
    private static final int[] DRAWS = {0, 4, 1, 3};

    public static void main(String[] args) {
        hearSixAtMost();
        hearTheSameAgain();
        hearEveryPlace();
        hearUnknown();
        hearFarFrom1To3();
        hearSwayFrom0To11();
        hearOrderOfRefusals();
        hearWithoutAYard();
        hearRefusedIsNotHeard();
        hearLeavesHim();
        forgetNothing();
        forgetAll();
        forgetWithoutAYard();
        forgetLeavesTheRest();
        heightsOfNothingHeard();
        heightsByTheLeastSway();
        heightsByTheGreatestSway();
        heightsByJustSoMuch();
        heightsOneByOne();
        heightsNone();
        heightsAllThatIsHeard();
        heightsGroundAsItIsNow();
        heightsWhateverTheHeightIs();
        heightsWithoutAYard();
        racesSteps();
        racesSeed();
        racesWhat();
        racesOutsideAheadOfState();
        racesWithoutAYard();
        racesADrawOfFour();
        racesTheDrawsBounds();
        racesTheNextSeed();
        racesTheRestBy2ToThe31();
        racesToTheEndIfLessFar();
        racesAtTheEnd();
        racesFromNow();
        racesHowOftenHeFalls();
        racesGoOnBehindAFall();
        racesChangeNothing();
        CHECK.end();
    }

    // ---- 15: hear

    private static StiltYard heard(int times) {
        StiltYard x = Check.yard("plgbo;5");
        for (int n = 0; n < times; n++) {
            x.hear(0, 1, 2, false);
        }
        return x;
    }

    private static void hearSixAtMost() {
        CHECK.sentence("15: how much is. FULL; HEARD (6 at most)");
        StiltYard x = Check.yard("plgbo;5");
        for (int n = 1; n <= 6; n++) {
            CHECK.due("hear " + n, x.hear(0, 1, n, false), n);
            CHECK.due("count(8)", x.count(8), n);
        }
        CHECK.refused("hear 7", x, y -> y.hear(0, 1, 7, true), FULL);
        CHECK.refused("hear 8", x, y -> y.hear(0, 1, 7, false), FULL);
        x.forget();
        CHECK.due("hear 1 behind forget()", x.hear(0, 1, 7, true), 1);
        CHECK.due("heights()", x.heights(), 0b111110000);
    }

    private static void hearTheSameAgain() {
        CHECK.sentence("15: how much is: the same again is more");
        StiltYard x = heard(0);
        for (int n = 1; n <= 6; n++) {
            CHECK.due("hear " + n, x.hear(2, 2, 2, true), n);
        }
        CHECK.refused("hear 7", x, y -> y.hear(2, 2, 2, true), FULL);
    }

    private static void hearEveryPlace() {
        CHECK.sentence("15: a STEP so far (1 to 3) to a PLACE: to any, by any");
        for (int place = 0; place < 12; place++) {
            for (int far = 1; far <= 3; far++) {
                StiltYard x = Check.yard("pppppppppppp;5");
                CHECK.due("hear(" + place + ", " + far + ", 0, false)", x.hear(place, far, 0, false), 1);
            }
        }
    }

    private static void hearUnknown() {
        CHECK.sentence("15: UNKNOWN: place");
        StiltYard x = Check.yard("plgbo;5");
        for (int place : new int[] {LEAST, -1, 5, 11, 12, MOST}) {
            CHECK.refused("hear(" + place + ", 1, 0, true)", x, y -> y.hear(place, 1, 0, true), UNKNOWN);
        }
        CHECK.due("hear(0, ..)", x.hear(0, 1, 0, false), 1);
        CHECK.due("hear(4, ..)", x.hear(4, 1, 0, false), 2);
    }

    private static void hearFarFrom1To3() {
        CHECK.sentence("15: OUTSIDE: far (1 to 3)");
        StiltYard x = Check.yard("plgbo;5");
        for (int far : new int[] {LEAST, -1, 0, 4, MOST}) {
            CHECK.refused("hear(1, " + far + ", 0, true)", x, y -> y.hear(1, far, 0, true), OUTSIDE);
        }
        CHECK.due("hear(1, 1, ..)", x.hear(1, 1, 0, false), 1);
        CHECK.due("hear(1, 3, ..)", x.hear(1, 3, 0, false), 2);
    }

    private static void hearSwayFrom0To11() {
        CHECK.sentence("15: OUTSIDE: sway (0 to 11)");
        StiltYard x = Check.yard("plgbo;5");
        for (int sway : new int[] {LEAST, -1, 12, 13, MOST}) {
            CHECK.refused("hear(1, 1, " + sway + ", true)", x, y -> y.hear(1, 1, sway, true), OUTSIDE);
        }
        CHECK.due("hear(1, 1, 0, ..)", x.hear(1, 1, 0, false), 1);
        CHECK.due("hear(1, 1, 11, ..)", x.hear(1, 1, 11, true), 2);
        CHECK.due("both are so for all", x.heights(), ALL);
    }

    private static void hearOrderOfRefusals() {
        CHECK.sentence("15: UNKNOWN; OUTSIDE; FULL: of several the first");
        StiltYard x = heard(6);
        CHECK.refused("unknown, outside, full", x, y -> y.hear(5, 0, 12, true), UNKNOWN);
        CHECK.refused("unknown, full", x, y -> y.hear(-1, 1, 0, true), UNKNOWN);
        CHECK.refused("far outside, full", x, y -> y.hear(0, 4, 0, true), OUTSIDE);
        CHECK.refused("sway outside, full", x, y -> y.hear(0, 1, 12, true), OUTSIDE);
        CHECK.refused("full", x, y -> y.hear(0, 1, 0, true), FULL);
        StiltYard few = heard(1);
        CHECK.refused("unknown, outside", few, y -> y.hear(5, 0, 0, true), UNKNOWN);
        CHECK.refused("unknown, outside", few, y -> y.hear(-1, 1, -1, true), UNKNOWN);
    }

    private static void hearWithoutAYard() {
        CHECK.sentence("15: UNKNOWN: place, no YARD");
        StiltYard x = Check.page("pppp;5");
        CHECK.refused("hear(0, 1, 0, true)", x, y -> y.hear(0, 1, 0, true), UNKNOWN);
        CHECK.refused("hear(0, 0, 0, true)", x, y -> y.hear(0, 0, 0, true), UNKNOWN);
        x.yard();
        CHECK.due("count(8)", x.count(8), 0);
        CHECK.due("heights()", x.heights(), ALL);
    }

    private static void hearRefusedIsNotHeard() {
        CHECK.sentence("15: refused: nothing has changed");
        StiltYard x = heard(5);
        x.hear(0, 4, 11, true);
        x.hear(5, 1, 11, true);
        x.hear(0, 1, 12, true);
        CHECK.due("count(8)", x.count(8), 5);
        CHECK.due("hear 6", x.hear(0, 1, 8, false), 6);
        x.hear(0, 1, 0, true);
        CHECK.due("heights 1 to 3", x.heights(), 7);
    }

    private static void hearLeavesHim() {
        CHECK.sentence("15: one of whom the HEIGHT is not known: not he who stands here");
        StiltYard x = Check.yard("plgbo;5");
        x.step(2);
        x.hear(0, 1, 0, true);
        CHECK.counts("behind", x, 5, 5, 2, 4, 1, 0, 7, 1, 1, 0, 1, 0);
    }

    // ---- 16: forget

    private static void forgetNothing() {
        CHECK.sentence("16: how much was: nothing");
        StiltYard x = heard(0);
        long ahead = x.digest();
        CHECK.due("forget()", x.forget(), 0);
        CHECK.due("digest()", x.digest(), ahead);
    }

    private static void forgetAll() {
        CHECK.sentence("16: Nothing is HEARD any more: how much was");
        for (int n = 1; n <= 6; n++) {
            StiltYard x = heard(n);
            CHECK.due("forget()", x.forget(), n);
            CHECK.due("count(8)", x.count(8), 0);
            CHECK.due("heights()", x.heights(), ALL);
            CHECK.due("forget() again", x.forget(), 0);
        }
    }

    private static void forgetWithoutAYard() {
        CHECK.sentence("16: no YARD: nothing was HEARD, and it is not refused");
        CHECK.due("forget()", new StiltYard().forget(), 0);
        StiltYard x = heard(6);
        Check.write(x, "pppp;5");
        x.yard();
        CHECK.due("forget() in another yard", x.forget(), 0);
    }

    private static void forgetLeavesTheRest() {
        CHECK.sentence("16: nothing else is gone");
        StiltYard x = Check.yard("plgbo;5");
        x.step(2);
        x.hear(1, 1, 1, true);
        x.image();
        Check.write(x, "pp");
        CHECK.due("forget()", x.forget(), 1);
        CHECK.counts("behind", x, 5, 5, 2, 4, 1, 0, 7, 1, 0, 2, 1, 0);
        x.restore();
        CHECK.due("the image has it", x.count(8), 1);
        CHECK.due("heights()", x.heights(), 0);
    }

    // ---- 17: heights

    /** What one thing heard of plain ground leaves: a step of 1, so that the sway is so much then. */
    private static void heights(int swayThen, int ifFell, int ifNot) {
        StiltYard x = Check.yard("pppp;5");
        x.hear(1, 1, swayThen - 1, true);
        CHECK.due("fell with " + swayThen, x.heights(), ifFell);
        x.forget();
        x.hear(1, 1, swayThen - 1, false);
        CHECK.due("did not with " + swayThen, x.heights(), ifNot);
    }

    private static void heightsOfNothingHeard() {
        CHECK.sentence("17: HEIGHTS (1 to 9): all nine, nothing HEARD");
        CHECK.due("heights()", Check.yard("pppp;1").heights(), ALL);
        CHECK.due("heights()", Check.yard("bbbbbbbbbbbb;9").heights(), ALL);
    }

    private static void heightsByTheLeastSway() {
        CHECK.sentence("17: the highest bears 3: with less none falls");
        heights(1, 0, ALL);
        heights(2, 0, ALL);
        heights(3, 0, ALL);
        heights(4, 256, 255);
        heights(5, 256 + 128, 127);
    }

    private static void heightsByTheGreatestSway() {
        CHECK.sentence("17: the lowest bears 11: with more all fall");
        heights(10, 511 - 3, 3);
        heights(11, 511 - 1, 1);
        heights(12, ALL, 0);
        StiltYard x = Check.yard("bbbb;5");
        x.hear(3, 3, 11, true);
        CHECK.due("fell with 17", x.heights(), ALL);
        x.hear(3, 3, 11, false);
        CHECK.due("and did not", x.heights(), 0);
    }

    private static void heightsByJustSoMuch() {
        CHECK.sentence("17: he BEARS 12 less the HEIGHT; when it is more, he FALLS");
        for (int height = 1; height <= 9; height++) {
            int bears = 12 - height;
            int bit = 1 << (height - 1);
            StiltYard x = Check.yard("pppp;5");
            x.hear(1, 1, bears - 1, false);
            CHECK.due(height + " bears " + bears, x.heights() & bit, bit);
            x.forget();
            x.hear(1, 1, bears, false);
            CHECK.due(height + " does not bear " + (bears + 1), x.heights() & bit, 0);
        }
    }

    private static void heightsOneByOne() {
        CHECK.sentence("17: as bits (1 for 1, 2 for 2, 4 for 3, and so on)");
        int[] bits = {1, 2, 4, 8, 16, 32, 64, 128, 256};
        for (int height = 1; height <= 9; height++) {
            StiltYard x = Check.yard("pppp;5");
            x.hear(1, 1, 11 - height, false);
            x.hear(1, 1, 12 - height, true);
            CHECK.due("height " + height + " alone", x.heights(), bits[height - 1]);
        }
    }

    private static void heightsNone() {
        CHECK.sentence("17: HEIGHTS he can have: none");
        StiltYard x = Check.yard("pppp;5");
        x.hear(1, 1, 5, true);
        x.hear(1, 1, 5, false);
        CHECK.due("heights()", x.heights(), 0);
        x.hear(1, 1, 11, true);
        CHECK.due("what comes behind does not help", x.heights(), 0);
    }

    private static void heightsAllThatIsHeard() {
        CHECK.sentence("17: so that all that is HEARD is so: the first of it and the sixth");
        for (int at = 0; at < 6; at++) {
            StiltYard x = Check.yard("plgbo;5");
            for (int n = 0; n < 6; n++) {
                x.hear(0, 1, n == at ? 8 : 2, false);
            }
            CHECK.due("the one that tells is " + at, x.heights(), 7);
        }
    }

    private static void heightsGroundAsItIsNow() {
        CHECK.sentence("17: GROUND as it is now");
        StiltYard x = Check.yard("pppp;5");
        x.hear(3, 3, 5, true);
        int[] sways = {8, 9, 10, 11, 10};
        for (int kind = 0; kind <= 4; kind++) {
            x.lay(3, kind);
            // those fall whose height is more than 12 less the sway
            int stand = (1 << (12 - sways[kind])) - 1;
            CHECK.due("kind " + kind, x.heights(), ALL - stand);
        }
        x.lay(2, 3);
        CHECK.due("of that place alone", x.heights(), ALL - 3);
    }

    private static void heightsWhateverTheHeightIs() {
        CHECK.sentence("17: of whom the HEIGHT is not known: not the HEIGHT of the blocks");
        StiltYard x = Check.yard("pppp;1");
        x.hear(1, 1, 6, true);
        for (int height = 1; height <= 9; height++) {
            x.blocks(height);
            CHECK.due("height " + height, x.heights(), 0b111100000);
        }
    }

    private static void heightsWithoutAYard() {
        CHECK.sentence("17: STATE: no YARD");
        CHECK.refused("heights()", new StiltYard(), StiltYard::heights, STATE);
        CHECK.refused("heights()", Check.page("pppp;5"), StiltYard::heights, STATE);
    }

    // ---- 18: races

    private static void racesSteps() {
        CHECK.sentence("18: OUTSIDE: steps (1 to 60)");
        StiltYard x = Check.yard("pppp;5");
        for (int steps : new int[] {LEAST, -1, 0, 61, 62, MOST}) {
            CHECK.refused("races(" + steps + ", 0, 0)", x, y -> y.races(steps, 0, 0), OUTSIDE);
        }
        CHECK.due("races(1, 0, 2)", x.races(1, 0, 2), 12345);
        CHECK.due("races(60, 0, 2)", x.races(60, 0, 2), seedThen(60, 0));
    }

    private static void racesSeed() {
        CHECK.sentence("18: OUTSIDE: seed (0 at least)");
        StiltYard x = Check.yard("pppp;5");
        for (int seed : new int[] {LEAST, LEAST + 1, -1}) {
            CHECK.refused("races(1, " + seed + ", 2)", x, y -> y.races(1, seed, 2), OUTSIDE);
        }
        CHECK.due("races(1, 0, 2)", x.races(1, 0, 2), 12345);
        CHECK.due("races(1, MOST, 2)", x.races(1, MOST, 2), 1043980748);
    }

    private static void racesWhat() {
        CHECK.sentence("18: OUTSIDE: what");
        StiltYard x = Check.yard("pppp;5");
        for (int what : new int[] {LEAST, -1, 3, MOST}) {
            CHECK.refused("races(1, 3, " + what + ")", x, y -> y.races(1, 3, what), OUTSIDE);
        }
        CHECK.due("races(1, 3, 0)", x.races(1, 3, 0), 0);
        CHECK.due("races(1, 3, 1)", x.races(1, 3, 1), 3);
        CHECK.due("races(1, 3, 2)", x.races(1, 3, 2), 1163074432);
    }

    private static void racesOutsideAheadOfState() {
        CHECK.sentence("18: OUTSIDE; STATE: of several the first");
        StiltYard x = new StiltYard();
        CHECK.refused("races(0, 0, 0)", x, y -> y.races(0, 0, 0), OUTSIDE);
        CHECK.refused("races(61, 0, 0)", x, y -> y.races(61, 0, 0), OUTSIDE);
        CHECK.refused("races(1, -1, 0)", x, y -> y.races(1, -1, 0), OUTSIDE);
        CHECK.refused("races(1, 0, 3)", x, y -> y.races(1, 0, 3), OUTSIDE);
        CHECK.refused("races(1, 0, -1)", x, y -> y.races(1, 0, -1), OUTSIDE);
    }

    private static void racesWithoutAYard() {
        CHECK.sentence("18: STATE: no YARD");
        StiltYard x = Check.page("pppp;5");
        for (int what = 0; what <= 2; what++) {
            int asked = what;
            CHECK.refused("races(1, 0, " + what + ")", x, y -> y.races(1, 0, asked), STATE);
            CHECK.refused("races(60, MOST, " + what + ")", x, y -> y.races(60, MOST, asked), STATE);
        }
    }

    private static void racesADrawOfFour() {
        CHECK.sentence("18: each as far as a DRAW of 4 tells");
        StiltYard x = Check.yard("pppppppppppp;1");
        for (int far = 0; far <= 3; far++) {
            CHECK.due("a draw of " + far, x.races(1, DRAWS[far], 1), far);
        }
    }

    /** Seeds whose next one is just below or at a bound of a draw. */
    private static void racesTheDrawsBounds() {
        CHECK.sentence("18: then that by 65536 (rounded down), its rest");
        int[] seeds = {2088216195, 2032319262, 1742513795, 1340914462, 1051108995, 995212062, 705406595, 286434947, 230538014};
        int[] nexts = {0, 65535, 65536, 196607, 196608, 262143, 262144, 2147418112, MOST};
        int[] fars = {0, 0, 1, 2, 3, 3, 0, 3, 3};
        StiltYard x = Check.yard("pppppppppppp;1");
        for (int i = 0; i < seeds.length; i++) {
            CHECK.due("races(1, " + seeds[i] + ", 2)", x.races(1, seeds[i], 2), nexts[i]);
            CHECK.due("races(1, " + seeds[i] + ", 1)", x.races(1, seeds[i], 1), fars[i]);
        }
    }

    private static void racesTheNextSeed() {
        CHECK.sentence("18: DRAWS: the next SEED each time");
        StiltYard x = Check.yard("pppp;5");
        int[] seeds = {0, 1, 2, MOST - 1, MOST};
        for (int seed : seeds) {
            int then = seed;
            for (int steps = 1; steps <= 60; steps++) {
                CHECK.due("races(" + steps + ", " + seed + ", 2)", x.races(steps, seed, 2), seedThen(steps, seed));
                // one step more is one from the seed then
                then = x.races(1, then, 2);
            }
            x = Check.yard("pppp;5");
            CHECK.due("60 times one step", then, seedThen(60, seed));
        }
    }

    /** With whole numbers of any size, so that no wrap-around can hide. */
    private static long seedThen(int steps, int seed) {
        BigInteger then = BigInteger.valueOf(seed);
        for (int i = 0; i < steps; i++) {
            then = then.multiply(BigInteger.valueOf(1103515245)).add(BigInteger.valueOf(12345)).mod(BigInteger.TWO.pow(31));
        }
        return then.longValueExact();
    }

    private static void racesTheRestBy2ToThe31() {
        CHECK.sentence("18: its rest by 2 to the 31: it wraps around");
        StiltYard x = Check.yard("pppp;5");
        CHECK.due("1 does not wrap", x.races(1, 1, 2), 1103527590);
        CHECK.due("2 does", x.races(1, 2, 2), 59559187);
        CHECK.due("to 0", x.races(1, 2088216195, 2), 0);
        CHECK.due("to the greatest", x.races(1, 230538014, 2), MOST);
        CHECK.due("from the greatest", x.races(1, MOST, 2), 1043980748);
    }

    private static void racesToTheEndIfLessFar() {
        CHECK.sentence("18: or to the END, if that is less far");
        for (int ahead = 0; ahead <= 3; ahead++) {
            StiltYard x = Check.yard("pppppp;1");
            Check.walk(x, 5 - ahead);
            for (int far = 0; far <= 3; far++) {
                CHECK.due(ahead + " ahead of the end, a draw of " + far, x.races(1, DRAWS[far], 1), 5 - ahead + Math.min(far, ahead));
            }
        }
        // by a draw of 3, with 2 to go: 4 in the brook, 6 would be too much
        StiltYard y = Check.yard("pppb;8");
        y.step(1);
        y.step(0);
        CHECK.due("the sway is of the lesser step", y.races(1, DRAWS[3], 0), 0);
        CHECK.due("he is there", y.races(1, DRAWS[3], 1), 3);
    }

    private static void racesAtTheEnd() {
        CHECK.sentence("18: at the END on the spot alone");
        StiltYard x = Check.yard("pppp;9");
        x.step(3);
        CHECK.due("60 rests", x.races(60, 1, 0), 0);
        CHECK.due("he stays", x.races(60, 1, 1), 3);
        x.lay(3, 3);
        CHECK.due("in a brook he falls", x.races(1, DRAWS[3], 0), 1);
        CHECK.due("whatever is drawn", x.races(1, DRAWS[0], 0), 1);
        CHECK.due("and is at place 0", x.races(1, DRAWS[0], 1), 0);
    }

    private static void racesFromNow() {
        CHECK.sentence("18: from now so many STEPS");
        StiltYard x = Check.yard("pppppp;9");
        CHECK.due("a draw of 2 at first", x.races(1, DRAWS[2], 1), 2);
        x.step(2);
        CHECK.due("a draw of 2 with a sway of 2", x.races(1, DRAWS[2], 0), 1);
        x.step(0);
        CHECK.due("a draw of 2 with no sway", x.races(1, DRAWS[2], 1), 4);
        x.lay(4, 1);
        CHECK.due("to a lawn", x.races(1, DRAWS[2], 0), 0);
        x.lay(4, 2);
        CHECK.due("to gravel", x.races(1, DRAWS[2], 0), 1);
        x.blocks(8);
        CHECK.due("from place 0", x.races(1, DRAWS[2], 1), 2);
    }

    private static void racesHowOftenHeFalls() {
        CHECK.sentence("18: how often he FALLS: in the race alone");
        StiltYard x = Check.yard("bbbb;9");
        for (int n = 0; n < 5; n++) {
            x.step(3);
        }
        CHECK.due("he fell so often", x.count(5), 5);
        CHECK.due("a race without a fall", x.races(1, DRAWS[0], 0), 0);
        CHECK.due("a race with one", x.races(1, DRAWS[3], 0), 1);
        CHECK.due("count(5)", x.count(5), 5);
    }

    /** All ground is a brook: by 0 it grows by 1, by 1 he is at 2, by 2 or 3 he falls. */
    private static void racesGoOnBehindAFall() {
        CHECK.sentence("18: he FALLS, and goes on from PLACE 0 with a SWAY of 0");
        StiltYard x = Check.yard("bbbbbbbbbbbb;9");
        for (int seed = 0; seed < 20; seed++) {
            long then = seed;
            int place = 0;
            int sway = 0;
            int falls = 0;
            for (int i = 0; i < 60; i++) {
                then = seedThen(1, (int) then);
                int far = (int) (then / 65536 % 4);
                sway += far == 0 ? 1 : 2 * far;
                place += far;
                if (sway > 3) {
                    falls++;
                    place = 0;
                    sway = 0;
                }
            }
            CHECK.due("races(60, " + seed + ", 0)", x.races(60, seed, 0), falls);
            CHECK.due("races(60, " + seed + ", 1)", x.races(60, seed, 1), place);
        }
    }

    private static void racesChangeNothing() {
        CHECK.sentence("18: as they would be: nothing has changed");
        StiltYard x = Check.yard("plgbop;6");
        x.step(2);
        x.hear(1, 1, 1, true);
        x.image();
        x.step(1);
        long ahead = x.digest();
        for (int what = 0; what <= 2; what++) {
            x.races(60, 77, what);
        }
        CHECK.due("digest()", x.digest(), ahead);
        CHECK.due("the image is kept", x.restore(), 1);
        CHECK.counts("as it was", x, 6, 6, 2, 4, 1, 0, 6, 2, 1, 0, 1, 0);
        CHECK.due("TRY", x.about(0, 5), NONE);
    }
}
