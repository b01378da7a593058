import java.util.function.ToIntFunction;

/** What all tests share: comparing answers, and making objects with a yard. */
final class Check {
    /** Far above what any test needs, some seconds. */
    private static final long MOST_MILLISECONDS = 300_000;

    private final String name;
    private volatile String words = "";
    private int wrong = 0;

    Check(String name) {
        this.name = name;
        Thread limit = new Thread(this::waitForTheEnd);
        limit.setDaemon(true);
        limit.start();
    }

    /** A call that never ends must fail the test, not hold up all the others. */
    private void waitForTheEnd() {
        try {
            Thread.sleep(MOST_MILLISECONDS);
        } catch (InterruptedException e) {
            return;
        }
        System.out.println(name + words + ": does not end");
        Runtime.getRuntime().halt(1);
    }

    /** The sentence of the document by which the answers that follow are due; told when one is wrong. */
    void sentence(String sentence) {
        words = " [" + sentence + "]";
    }

    void due(String call, long got, long want) {
        if (got != want) {
            wrong++;
            System.out.println(name + words + ": " + call + " answered " + got + ", due is " + want);
        }
    }

    /** A call that is due to be refused, and to change nothing that can be seen. */
    void refused(String call, StiltYard x, ToIntFunction<StiltYard> made, int want) {
        long ahead = x.digest();
        due(call, made.applyAsInt(x), want);
        due("digest() behind the refused " + call, x.digest(), ahead);
    }

    /** Ends the machine with exit code 1 if an answer was wrong. */
    void end() {
        System.out.println(name + ": " + (wrong == 0 ? "all answers are as due" : wrong + " answers are not as due"));
        if (wrong != 0) {
            System.exit(1);
        }
    }

    static void write(StiltYard x, String text) {
        for (int i = 0; i < text.length(); i++) {
            x.letter(text.charAt(i));
        }
    }

    /** So many times the same letter. */
    static String times(int n, char letter) {
        return String.valueOf(letter).repeat(n);
    }

    static StiltYard page(String text) {
        StiltYard x = new StiltYard();
        write(x, text);
        return x;
    }

    static StiltYard yard(String text) {
        StiltYard x = page(text);
        if (x.yard() < 0) {
            throw new IllegalStateException("no yard: " + text);
        }
        return x;
    }

    /** By steps of 1, each with a rest behind it, to a place of plain ground. */
    static void walk(StiltYard x, int place) {
        for (int i = x.count(2); i < place; i++) {
            x.step(1);
            x.step(0);
        }
        if (x.count(2) != place) {
            throw new IllegalStateException("he is not at place " + place);
        }
    }

    /** What count() tells for 0 to 11, in order, against what is due. */
    void counts(String when, StiltYard x, int... want) {
        for (int what = 0; what < want.length; what++) {
            due(when + " count(" + what + ")", x.count(what), want[what]);
        }
    }

    static long hash(long... numbers) {
        long h = 1063;
        for (long number : numbers) {
            h = 31 * h + number;
        }
        return h;
    }
}
