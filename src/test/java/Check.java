/** What all tests share: comparing answers, and making objects with a yard. */
final class Check {
    private final String name;
    private int wrong = 0;

    Check(String name) {
        this.name = name;
    }

    void due(String call, long got, long want) {
        if (got != want) {
            wrong++;
            System.out.println(name + ": " + call + " answered " + got + ", due is " + want);
        }
    }

    /** Ends the machine with exit code 1 if an answer was wrong. */
    void end() {
        System.out.println(name + ": " + (wrong == 0 ? "all answers are as due" : wrong + " answers are not as due"));
        if (wrong != 0) {
            System.exit(1);
        }
    }

    static void write(StiltYard x, String text) {
        for (int i = 0; i < text.length(); i++) {
            x.letter(text.charAt(i));
        }
    }

    static StiltYard page(String text) {
        StiltYard x = new StiltYard();
        write(x, text);
        return x;
    }

    static StiltYard yard(String text) {
        StiltYard x = page(text);
        if (x.yard() < 0) {
            throw new IllegalStateException("no yard: " + text);
        }
        return x;
    }

    /** What count() tells for 0 to 11, in order, against what is due. */
    void counts(String when, StiltYard x, int... want) {
        for (int what = 0; what < want.length; what++) {
            due(when + " count(" + what + ")", x.count(what), want[what]);
        }
    }

    static long hash(long... numbers) {
        long h = 1063;
        for (long number : numbers) {
            h = 31 * h + number;
        }
        return h;
    }
}
