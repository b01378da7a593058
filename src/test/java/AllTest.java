/** Promises 19 to 22: image, restore, count, digest. */
public final class AllTest {
    private static final Check CHECK = new Check("AllTest");

    public static void main(String[] args) {
        restored();
        latestImage();
        anotherYard();
        countRefused();
        digests();
        CHECK.end();
    }

    private static void restored() {
        StiltYard x = Check.yard("plgbop;6");
        CHECK.due("restore() of none", x.restore(), StiltYard.STATE);
        x.step(2);
        x.step(3);
        x.step(1);
        x.hear(2, 1, 4, true);
        x.hear(0, 1, 4, false);
        CHECK.counts("kept", x, 6, 6, 1, 2, 3, 1, 6, 2, 2, 0, 1, 0);
        CHECK.due("image()", x.image(), 3);
        CHECK.counts("behind image()", x, 6, 6, 1, 2, 3, 1, 6, 2, 2, 0, 1, 0);
        for (int time = 0; time < 2; time++) {
            x.lay(0, 4);
            x.lay(5, 3);
            x.step(0);
            x.blocks(9);
            x.step(3);
            x.forget();
            x.hear(3, 3, 3, time == 0);
            x.letter('q');
            x.quick(0);
            CHECK.due("restore()", x.restore(), 3);
            CHECK.counts("restored", x, 6, 6, 1, 2, 3, 1, 6, 2, 2, time + 1, 1, time + 1);
            CHECK.due("about(0, 0)", x.about(0, 0), 0);
            CHECK.due("about(5, 0)", x.about(5, 0), 0);
            CHECK.due("about(4, 0)", x.about(4, 0), 4);
            CHECK.due("heights()", x.heights(), 96);
        }
    }

    private static void latestImage() {
        StiltYard x = Check.yard("pppppp;1");
        CHECK.due("image()", x.image(), 0);
        x.step(1);
        CHECK.due("image() again", x.image(), 1);
        x.step(1);
        CHECK.due("restore()", x.restore(), 1);
        CHECK.due("place", x.count(2), 1);
        x.lay(5, 2);
        CHECK.due("restore() again", x.restore(), 1);
        CHECK.due("about(5, 0)", x.about(5, 0), 0);
    }

    private static void anotherYard() {
        StiltYard x = Check.yard("pppppp;1");
        x.step(1);
        x.image();
        Check.write(x, "none");
        x.yard();
        CHECK.due("restore() when none was read", x.restore(), 1);
        x.blank();
        Check.write(x, "pppppp;1");
        x.yard();
        CHECK.due("restore() in another yard", x.restore(), StiltYard.STATE);
        CHECK.counts("refused", x, 6, 1, 0, 0, 0, 0, 11, 6, 0, 0, 2, 0);
        CHECK.due("image()", x.image(), 0);
        x.step(2);
        CHECK.due("restore()", x.restore(), 0);
        CHECK.due("place", x.count(2), 0);
    }

    private static void countRefused() {
        StiltYard x = Check.yard("pppp;5");
        int[] outside = {-1, 12, Integer.MIN_VALUE, Integer.MAX_VALUE};
        for (int what : outside) {
            CHECK.due("count(" + what + ")", x.count(what), StiltYard.OUTSIDE);
        }
    }

    private static void digests() {
        CHECK.due("new", new StiltYard().digest(), Check.hash(0, 0, 0, 0, 0, 0, 0, 0, 0, 0, 0, 0));
        CHECK.due("a page", Check.page("p~ ").digest(), Check.hash('p', '~', ' ', 0, 0, 0, 0, 0, 0, 0, 0, 0, 3, 0, 0));
        StiltYard x = Check.yard("oplb;9");
        x.step(1);
        x.letter('x');
        x.quick(0);
        // TRY: a sway of 7 then parts the heights 5 to 4; to the brook's end 2 steps at least, plain 1
        CHECK.due("a yard", x.digest(), Check.hash(
            4, 3, 4, 5, 2, 4,
            0, 1, 2, 3, 0, 6,
            1, 2, 3, 4, 1, 5,
            3, 2, 4, 6, 3, 5,
            0, 9, 3, 1, 511,
            'x',
            4, 9, 1, 1, 1, 0, 3, 1, 0, 1, 1, 1));
        long ahead = x.digest();
        CHECK.due("digest() changes nothing", x.digest(), ahead);
        x.hear(0, 1, 0, true);
        x.hear(0, 1, 0, false);
        CHECK.due("nothing to try", x.digest(), Check.hash(
            4, 3, 4, 5, 2, -1,
            0, 1, 2, 3, 0, -1,
            1, 2, 3, 4, 1, -1,
            3, 2, 4, 6, 3, -1,
            0, 9, 3, 1, 0,
            'x',
            4, 9, 1, 1, 1, 0, 3, 1, 2, 1, 1, 1));
        StiltYard bog = Check.yard("polb;9");
        bog.step(1);
        CHECK.due("on a bog", bog.digest(), Check.hash(
            0, 1, 2, 3, 0, 6,
            4, 3, 4, 5, 2, 4,
            1, 2, 3, 4, 1, 5,
            3, 2, 4, 6, 3, 5,
            3, 9, 3, 1, 511,
            4, 9, 1, 3, 1, 0, 3, 1, 0, 0, 1, 0));
    }
}
