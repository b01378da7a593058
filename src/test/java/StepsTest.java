/** Promises 9 to 11: blocks, step, would. */
public final class StepsTest {
    private static final Check CHECK = new Check("StepsTest");

    public static void main(String[] args) {
        blocks();
        stepsFar();
        stepsOnTheSpot();
        bears();
        refused();
        CHECK.end();
    }

    private static void blocks() {
        StiltYard x = Check.yard("pppppp;5");
        x.step(2);
        x.hear(1, 1, 1, false);
        CHECK.due("blocks(9)", x.blocks(9), 5);
        CHECK.counts("behind", x, 6, 9, 0, 0, 1, 0, 3, 6, 1);
        CHECK.due("blocks(1)", x.blocks(1), 9);
        CHECK.due("bears", x.count(6), 11);
        x.step(1);
        CHECK.due("blocks(1) again", x.blocks(1), 1);
        CHECK.due("at place 0", x.count(2), 0);
        x.step(1);
        int[] outside = {0, 10, -1, Integer.MIN_VALUE, Integer.MAX_VALUE};
        for (int height : outside) {
            CHECK.due("blocks(" + height + ")", x.blocks(height), StiltYard.OUTSIDE);
        }
        CHECK.counts("refused", x, 6, 1, 1, 1, 3, 0, 11, 6, 1);
    }

    private static void stepsFar() {
        String letters = "plgbo";
        int[][] growth = {{1, 2, 3}, {2, 3, 4}, {3, 4, 5}, {2, 4, 6}, {3, 4, 5}};
        for (int kind = 0; kind < 5; kind++) {
            for (int far = 1; far <= 3; far++) {
                char[] text = "pppppp;1".toCharArray();
                text[far] = letters.charAt(kind);
                StiltYard x = Check.yard(new String(text));
                CHECK.due(new String(text) + " would(" + far + ")", x.would(far), growth[kind][far - 1]);
                CHECK.due(new String(text) + " step(" + far + ")", x.step(far), far);
                CHECK.counts("behind", x, 6, 1, far, growth[kind][far - 1], 1, 0);
            }
        }
    }

    private static void stepsOnTheSpot() {
        int[][] sways = {{5, 3, 1, 0, 0}, {5, 4, 3, 2, 1, 0, 0}, {5, 3, 1, 0, 0}, {5, 6, 7, 8, 9}, {5, 5, 5}};
        for (int kind = 0; kind < 5; kind++) {
            StiltYard x = Check.yard("pppppppp;1");
            x.step(3);
            x.step(2);
            x.lay(5, kind);
            for (int i = 0; i + 1 < sways[kind].length; i++) {
                CHECK.due("kind " + kind + " sway", x.count(3), sways[kind][i]);
                CHECK.due("kind " + kind + " would(0)", x.would(0), sways[kind][i + 1]);
                CHECK.due("kind " + kind + " step(0)", x.step(0), 5);
            }
            CHECK.due("steps", x.count(4), 2 + sways[kind].length - 1);
            CHECK.due("falls", x.count(5), 0);
        }
        StiltYard start = Check.yard("ppppp;5");
        CHECK.due("on the spot at first", start.step(0), 0);
        CHECK.due("sway", start.count(3), 0);
    }

    private static void bears() {
        for (int height = 1; height <= 9; height++) {
            StiltYard x = Check.yard("pppp;" + height);
            x.lay(0, 3);
            for (int sway = 1; sway <= 12 - height; sway++) {
                CHECK.due("bears " + sway, x.step(0), 0);
                CHECK.due("sway", x.count(3), sway);
            }
            CHECK.due("would(0)", x.would(0), 13 - height);
            CHECK.due("height " + height + " falls", x.step(0), StiltYard.NONE);
            CHECK.counts("behind", x, 4, height, 0, 0, 13 - height, 1);
        }
        StiltYard x = Check.yard("pppb;9");
        CHECK.due("would(3)", x.would(3), 6);
        CHECK.due("step(3)", x.step(3), StiltYard.NONE);
        CHECK.due("step(2)", x.step(2), 2);
        CHECK.due("step(1)", x.step(1), StiltYard.NONE);
        CHECK.counts("behind", x, 4, 9, 0, 0, 3, 2);
        StiltYard end = Check.yard("pppp;9");
        CHECK.due("step(3)", end.step(3), 3);
        end.lay(3, 3);
        CHECK.due("would(0) in the brook", end.would(0), 4);
        CHECK.due("step(0) at the end", end.step(0), StiltYard.NONE);
        CHECK.due("at place 0", end.count(2), 0);
    }

    private static void refused() {
        StiltYard x = Check.yard("ppppp;1");
        int[] outside = {-1, 4, Integer.MIN_VALUE, Integer.MAX_VALUE};
        for (int far : outside) {
            CHECK.due("step(" + far + ")", x.step(far), StiltYard.OUTSIDE);
            CHECK.due("would(" + far + ")", x.would(far), StiltYard.OUTSIDE);
        }
        x.step(2);
        CHECK.due("would(3)", x.would(3), StiltYard.STATE);
        CHECK.due("step(3)", x.step(3), StiltYard.STATE);
        CHECK.due("step(2)", x.step(2), 4);
        for (int far = 1; far <= 3; far++) {
            CHECK.due("would(" + far + ") at the end", x.would(far), StiltYard.STATE);
            CHECK.due("step(" + far + ") at the end", x.step(far), StiltYard.STATE);
        }
        CHECK.due("step(4) at the end", x.step(4), StiltYard.OUTSIDE);
        CHECK.due("would(0) at the end", x.would(0), 2);
        CHECK.due("step(0) at the end", x.step(0), 4);
        CHECK.counts("behind", x, 5, 1, 4, 2, 3, 0);
    }
}
