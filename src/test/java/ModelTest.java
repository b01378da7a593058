import java.util.Random;

/** All promises: long runs of calls, each answered by the class as by the model of the document. */
public final class ModelTest {
    private static final Check CHECK = new Check("ModelTest");
    private static final int OBJECTS = 600;
    private static final int CALLS = 512;
    private static final int[] ODD = {-1, Integer.MIN_VALUE, Integer.MAX_VALUE, 4, 5, 6, 9, 10, 12, 13, 14, 61, 127};

    private final Random random;
    private final StiltYard x = new StiltYard();
    private final Model m = new Model();
    private final String run;
    private int called = 0;

    private ModelTest(int seed) {
        random = new Random(seed);
        run = "run " + seed;
    }

    public static void main(String[] args) {
        for (int seed = 0; seed < OBJECTS; seed++) {
            new ModelTest(seed).calls();
        }
        smallYards();
        CHECK.end();
    }

    private void due(String call, long got, long want) {
        called++;
        CHECK.due(run + ", call " + called + ": " + call, got, want);
    }

    private void calls() {
        if (random.nextInt(8) > 0) {
            newYard();
        }
        while (called < CALLS - 20) {
            oneCall();
        }
        due("digest()", x.digest(), m.digest());
    }

    /** Mostly from the least to the most; now and then something else. */
    private int number(int least, int most) {
        if (random.nextInt(12) == 0) {
            return ODD[random.nextInt(ODD.length)];
        }
        return least + random.nextInt(most - least + 1);
    }

    private void newYard() {
        due("blank()", x.blank(), m.blank());
        String kinds = new String[] {"plgbo", "ppppl", "pppb", "lgo", "go", "bp", "oooop"}[random.nextInt(7)];
        int places = 4 + random.nextInt(9);
        for (int i = 0; i < places; i++) {
            oneLetter(kinds.charAt(random.nextInt(kinds.length())));
        }
        oneLetter(';');
        oneLetter('1' + (random.nextBoolean() ? 8 - random.nextInt(3) : random.nextInt(9)));
        due("fault()", x.fault(), m.fault());
        due("yard()", x.yard(), m.yard());
    }

    private void oneLetter(int code) {
        due("letter(" + code + ")", x.letter(code), m.letter(code));
    }

    private void oneCall() {
        switch (random.nextInt(26)) {
            case 0: somePage(); break;
            case 1: if (random.nextInt(4) == 0) newYard(); break;
            case 2: case 3: about(); break;
            case 4: ground(); break;
            case 5: blocks(); break;
            case 6: case 7: case 8: case 9: case 10: case 11: steps(); break;
            case 12: case 13: quick(); break;
            case 14: wouldBe(); break;
            case 15: case 16: case 17: hear(); break;
            case 18: if (random.nextInt(3) == 0) due("forget()", x.forget(), m.forget()); break;
            case 19: races(); break;
            case 20: if (random.nextInt(3) == 0) due("image()", x.image(), m.image()); break;
            case 21: if (random.nextInt(3) == 0) due("restore()", x.restore(), m.restore()); break;
            case 22: if (random.nextInt(4) == 0) due("digest()", x.digest(), m.digest()); break;
            default: count(); break;
        }
    }

    private void somePage() {
        String letters = "plgbopppp;;59  x0";
        for (int i = random.nextInt(7); i > 0; i--) {
            oneLetter(random.nextInt(20) == 0 ? number(30, 128) : letters.charAt(random.nextInt(letters.length())));
            due("fault()", x.fault(), m.fault());
        }
        if (random.nextBoolean()) {
            due("yard()", x.yard(), m.yard());
        } else if (random.nextBoolean()) {
            due("blank()", x.blank(), m.blank());
        }
    }

    private void about() {
        int place = number(0, 11);
        int what = number(0, 5);
        due("about(" + place + ", " + what + ")", x.about(place, what), m.about(place, what));
    }

    private void ground() {
        int place = number(0, 11);
        int kind = number(0, 4);
        due("as(" + place + ", " + kind + ")", x.as(place, kind), m.as(place, kind));
        if (random.nextInt(3) == 0) {
            due("lay(" + place + ", " + kind + ")", x.lay(place, kind), m.lay(place, kind));
        }
    }

    private void blocks() {
        int height = number(1, 9);
        if (random.nextInt(3) == 0) {
            due("blocks(" + height + ")", x.blocks(height), m.blocks(height));
        }
    }

    private void steps() {
        int far = number(0, 3);
        due("would(" + far + ")", x.would(far), m.would(far));
        due("step(" + far + ")", x.step(far), m.step(far));
    }

    private void quick() {
        int what = random.nextInt(3) == 0 ? number(0, 0) : number(10, 13);
        due("quick(" + what + ")", x.quick(what), m.quick(what));
    }

    private void wouldBe() {
        int what = number(0, 1);
        due("mend(" + what + ")", x.mend(what), m.mend(what));
        due("high()", x.high(), m.high());
    }

    private void hear() {
        int place = number(0, 11);
        int far = number(1, 3);
        int sway = number(0, 11);
        // mostly what a height of 6 would do, so that some heights are left
        boolean fell = random.nextInt(6) == 0 ? random.nextBoolean() : sway + far > 6;
        due("hear(" + place + ", " + far + ", " + sway + ", " + fell + ")", x.hear(place, far, sway, fell),
            m.hear(place, far, sway, fell));
        due("heights()", x.heights(), m.heights());
    }

    private void races() {
        int steps = number(1, 60);
        int seed = random.nextInt(10) == 0 ? number(0, 3) : random.nextInt(Integer.MAX_VALUE);
        int what = number(0, 2);
        due("races(" + steps + ", " + seed + ", " + what + ")", x.races(steps, seed, what), m.races(steps, seed, what));
    }

    private void count() {
        int what = number(0, 11);
        due("count(" + what + ")", x.count(what), m.count(what));
    }

    /** Every yard of four places, with every height. */
    private static void smallYards() {
        String kinds = "plgbo";
        for (int n = 0; n < 625 * 9; n++) {
            int i = n / 9;
            String text = "" + kinds.charAt(i % 5) + kinds.charAt(i / 5 % 5) + kinds.charAt(i / 25 % 5)
                + kinds.charAt(i / 125) + ";" + (1 + n % 9);
            StiltYard x = Check.yard(text);
            Model m = new Model();
            for (char c : text.toCharArray()) {
                m.letter(c);
            }
            m.yard();
            for (int what = 10; what <= 13; what++) {
                CHECK.due(text + " quick(" + what + ")", x.quick(what), m.quick(what));
            }
            CHECK.due(text + " digest()", x.digest(), m.digest());
        }
    }
}
