/** Promises 15 to 18: hear, forget, heights, races. */
public final class HeardTest {
    private static final Check CHECK = new Check("HeardTest");

    public static void main(String[] args) {
        heard();
        hearRefused();
        heights();
        groundAsItIsNow();
        draws();
        races();
        racesRefused();
        CHECK.end();
    }

    private static void heard() {
        StiltYard x = Check.yard("plgbo;5");
        CHECK.due("forget() of nothing", x.forget(), 0);
        for (int n = 1; n <= 6; n++) {
            CHECK.due("hear " + n, x.hear(n % 5, n % 3 + 1, n, n > 3), n);
            CHECK.due("count(8)", x.count(8), n);
        }
        CHECK.due("hear 7", x.hear(0, 1, 0, true), StiltYard.FULL);
        CHECK.due("hear 7, unknown", x.hear(5, 1, 0, true), StiltYard.UNKNOWN);
        CHECK.due("hear 7, outside", x.hear(0, 4, 0, true), StiltYard.OUTSIDE);
        CHECK.due("count(8)", x.count(8), 6);
        CHECK.due("forget()", x.forget(), 6);
        CHECK.due("forget() again", x.forget(), 0);
        CHECK.due("heights()", x.heights(), 511);
        CHECK.due("hear anew", x.hear(4, 3, 11, true), 1);
    }

    private static void hearRefused() {
        StiltYard x = Check.yard("plgbo;5");
        int[] unknown = {-1, 5, Integer.MIN_VALUE, Integer.MAX_VALUE};
        for (int place : unknown) {
            CHECK.due("hear(" + place + ", ..)", x.hear(place, 1, 0, true), StiltYard.UNKNOWN);
            CHECK.due("hear(" + place + ", 0, ..)", x.hear(place, 0, 12, true), StiltYard.UNKNOWN);
        }
        int[] far = {-1, 0, 4, Integer.MIN_VALUE, Integer.MAX_VALUE};
        for (int f : far) {
            CHECK.due("hear(0, " + f + ", ..)", x.hear(0, f, 0, false), StiltYard.OUTSIDE);
        }
        int[] sway = {-1, 12, Integer.MIN_VALUE, Integer.MAX_VALUE};
        for (int s : sway) {
            CHECK.due("hear(0, 1, " + s + ", ..)", x.hear(0, 1, s, false), StiltYard.OUTSIDE);
        }
        CHECK.due("count(8)", x.count(8), 0);
        CHECK.due("hear(4, 3, 11, true)", x.hear(4, 3, 11, true), 1);
        CHECK.due("hear(0, 1, 0, false)", x.hear(0, 1, 0, false), 2);
    }

    private static void heights() {
        StiltYard x = Check.yard("plgbo;5");
        CHECK.due("nothing heard", x.heights(), 511);
        int[][] growth = {{1, 2, 3}, {2, 3, 4}, {3, 4, 5}, {2, 4, 6}, {3, 4, 5}};
        for (int place = 0; place < 5; place++) {
            for (int far = 1; far <= 3; far++) {
                for (int sway = 0; sway < 12; sway++) {
                    int fallen = 0;
                    for (int height = 1; height <= 9; height++) {
                        if (sway + growth[place][far - 1] + height > 12) {
                            fallen |= 1 << (height - 1);
                        }
                    }
                    String call = "hear(" + place + ", " + far + ", " + sway + ", ..)";
                    StiltYard y = Check.yard("plgbo;9");
                    y.hear(place, far, sway, true);
                    CHECK.due(call + " fell", y.heights(), fallen);
                    y.forget();
                    y.hear(place, far, sway, false);
                    CHECK.due(call + " did not", y.heights(), 511 - fallen);
                }
            }
        }
        StiltYard z = Check.yard("plgbo;5");
        z.hear(2, 1, 4, true);
        CHECK.due("6 to 9", z.heights(), 480);
        z.hear(0, 1, 4, false);
        CHECK.due("6 and 7", z.heights(), 96);
        z.hear(0, 1, 5, true);
        CHECK.due("7, or he would stand with 6", z.heights(), 64);
        z.hear(0, 1, 5, false);
        CHECK.due("none", z.heights(), 0);
    }

    private static void groundAsItIsNow() {
        StiltYard x = Check.yard("pppp;5");
        x.hear(1, 2, 3, true);
        CHECK.due("on ground 5", x.heights(), 0b110000000);
        x.lay(1, 3);
        CHECK.due("in the brook 7", x.heights(), 0b111100000);
        x.lay(1, 1);
        CHECK.due("on the lawn 6", x.heights(), 0b111000000);
        CHECK.due("TRY on the lawn: two fall, one stands", x.about(1, 5), 2);
        x.lay(1, 4);
        CHECK.due("on the bog 7", x.heights(), 0b111100000);
        CHECK.due("TRY on the bog: two and two", x.about(1, 5), 2);
    }

    private static long next(long seed) {
        return (1103515245L * seed + 12345L) % (1L << 31);
    }

    private static void draws() {
        StiltYard x = Check.yard("pppp;5");
        int[] seeds = {0, 1, 5, 77, 65536, 123456789, Integer.MAX_VALUE - 1, Integer.MAX_VALUE};
        for (int seed : seeds) {
            long then = seed;
            for (int steps = 1; steps <= 60; steps++) {
                then = next(then);
                if (steps == 1 || steps == 2 || steps == 59 || steps == 60) {
                    CHECK.due("races(" + steps + ", " + seed + ", 2)", x.races(steps, seed, 2), then);
                }
            }
            int far = (int) (next(seed) / 65536 % 4);
            CHECK.due("races(1, " + seed + ", 1)", x.races(1, seed, 1), far);
        }
        CHECK.due("the seed behind 0", x.races(1, 0, 2), 12345);
    }

    /** The same steps made with step() must lead to the same place and falls. */
    private static void races() {
        String[] yards = {"pppp;9", "plgbop;6", "bbbbbbbbbbbb;9", "pppppppppppp;1", "pppppppb;9"};
        for (String text : yards) {
            for (int seed = 0; seed < 8; seed++) {
                StiltYard raced = Check.yard(text);
                StiltYard stepped = Check.yard(text);
                for (int far = 3; far >= 1; far--) {
                    raced.step(far);
                    stepped.step(far);
                }
                int placeAhead = stepped.count(2);
                int stepsAhead = stepped.count(4);
                int fallsAhead = stepped.count(5);
                long drawn = seed;
                for (int steps = 1; steps <= 60; steps++) {
                    drawn = next(drawn);
                    int far = (int) (drawn / 65536 % 4);
                    stepped.step(Math.min(far, stepped.count(0) - 1 - stepped.count(2)));
                    String call = text + " races(" + steps + ", " + seed + ", ..)";
                    CHECK.due(call + " falls", raced.races(steps, seed, 0), stepped.count(5) - fallsAhead);
                    CHECK.due(call + " place", raced.races(steps, seed, 1), stepped.count(2));
                }
                CHECK.due(text + " he is where he was", raced.count(2), placeAhead);
                CHECK.due(text + " no step was made", raced.count(4), stepsAhead);
                CHECK.due(text + " he did not fall", raced.count(5), fallsAhead);
            }
        }
    }

    private static void racesRefused() {
        StiltYard x = Check.yard("pppp;5");
        int[] steps = {-1, 0, 61, Integer.MIN_VALUE, Integer.MAX_VALUE};
        for (int s : steps) {
            CHECK.due("races(" + s + ", 0, 0)", x.races(s, 0, 0), StiltYard.OUTSIDE);
        }
        CHECK.due("races(1, -1, 0)", x.races(1, -1, 0), StiltYard.OUTSIDE);
        CHECK.due("races(1, MIN, 0)", x.races(1, Integer.MIN_VALUE, 0), StiltYard.OUTSIDE);
        CHECK.due("races(1, 0, -1)", x.races(1, 0, -1), StiltYard.OUTSIDE);
        CHECK.due("races(1, 0, 3)", x.races(1, 0, 3), StiltYard.OUTSIDE);
    }
}
