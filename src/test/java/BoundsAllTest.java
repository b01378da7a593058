import java.math.BigInteger;
import java.util.ArrayList;
import java.util.List;

/** The boundary cases of promises 19 to 22 and of the 512 calls, one function for each sentence. */
public final class BoundsAllTest {
    private static final Check CHECK = new Check("BoundsAllTest");
    private static final int OUTSIDE = StiltYard.OUTSIDE;
    private static final int STATE = StiltYard.STATE;
    private static final int LEAST = Integer.MIN_VALUE;
    private static final int MOST = Integer.MAX_VALUE;

    public static void main(String[] args) {
        imageWithoutAYard();
        imageOfNoStep();
        imageTheLatest();
        imageChangesNothing();
        imageKeepsTheGround();
        imageKeepsTheHeight();
        imageKeepsPlaceAndSway();
        imageKeepsStepsAndFalls();
        imageKeepsWhatIsHeard();
        imageKeepsNoMore();
        restoreNoneWasKept();
        restoreAnotherYardSince();
        restoreAfterARefusedYard();
        restoreAfterARefusedImage();
        restoreImageOfTheOtherYard();
        restoreAgain();
        restoreHowManySteps();
        countOutside();
        countWithoutAYard();
        countPlaces();
        countHeightAndWhatHeBears();
        countPlaceAndSway();
        countStepsAndFalls();
        countPlainGround();
        countHeard();
        countLetters();
        countYards();
        countQuicks();
        countChangesNothing();
        digestOfNothing();
        digestOfAFullPage();
        digestOfTheLeastYard();
        digestOfTheGreatestYard();
        digestAtTheEnd();
        digestTellsOfEach();
        digestChangesNothing();
        digestBehindFortyQuicks();
        callsToThe512th();
        CHECK.end();
    }

    // ---- 19: image

    private static void imageWithoutAYard() {
        CHECK.sentence("19: STATE: no YARD");
        StiltYard x = Check.page("pppp;5");
        CHECK.refused("image()", x, StiltYard::image, STATE);
        CHECK.refused("restore()", x, StiltYard::restore, STATE);
        x.yard();
        CHECK.refused("the refused one was not kept", x, StiltYard::restore, STATE);
    }

    private static void imageOfNoStep() {
        CHECK.sentence("19: how many STEPS there were: none");
        StiltYard x = Check.yard("pppp;5");
        CHECK.due("image()", x.image(), 0);
        x.step(1);
        CHECK.due("restore()", x.restore(), 0);
        CHECK.due("count(2)", x.count(2), 0);
    }

    private static void imageTheLatest() {
        CHECK.sentence("19: one; the latest");
        StiltYard x = Check.yard("pppppp;1");
        for (int steps = 0; steps <= 5; steps++) {
            CHECK.due("image()", x.image(), steps);
            x.step(1);
        }
        CHECK.due("restore()", x.restore(), 5);
        CHECK.counts("the fifth", x, 6, 1, 5, 5, 5, 0);
    }

    private static void imageChangesNothing() {
        CHECK.sentence("19: An IMAGE is kept: nothing else has changed");
        StiltYard x = Check.yard("plgbo;5");
        x.step(2);
        x.hear(1, 1, 3, true);
        long ahead = x.digest();
        x.image();
        CHECK.due("digest()", x.digest(), ahead);
    }

    private static void imageKeepsTheGround() {
        CHECK.sentence("An IMAGE keeps the GROUND");
        StiltYard x = Check.yard("plgboplgbopl;5");
        x.lay(3, 0);
        x.image();
        for (int place = 0; place < 12; place++) {
            x.lay(place, (place + 3) % 5);
        }
        x.restore();
        for (int place = 0; place < 12; place++) {
            CHECK.due("about(" + place + ", 0)", x.about(place, 0), place == 3 ? 0 : place % 5);
        }
    }

    private static void imageKeepsTheHeight() {
        CHECK.sentence("An IMAGE keeps the HEIGHT");
        StiltYard x = Check.yard("pppp;1");
        x.step(3);
        x.image();
        x.blocks(9);
        x.restore();
        CHECK.counts("restored", x, 4, 1, 3, 3, 1, 0, 11);
        x.lay(3, 3);
        CHECK.due("he bears what he did", x.step(0), 3);
    }

    private static void imageKeepsPlaceAndSway() {
        CHECK.sentence("An IMAGE keeps PLACE, SWAY");
        StiltYard x = Check.yard("lpppp;9");
        x.step(2);
        x.image();
        x.step(2);
        CHECK.due("he fell", x.count(2), 0);
        x.restore();
        CHECK.due("count(2)", x.count(2), 2);
        CHECK.due("count(3)", x.count(3), 2);
        CHECK.due("would(1)", x.would(1), 3);
    }

    private static void imageKeepsStepsAndFalls() {
        CHECK.sentence("An IMAGE keeps STEPS, FALLS");
        StiltYard x = Check.yard("bbbb;9");
        x.step(3);
        CHECK.due("image()", x.image(), 1);
        x.step(3);
        x.step(3);
        CHECK.due("falls", x.count(5), 3);
        CHECK.due("restore()", x.restore(), 1);
        CHECK.due("count(4)", x.count(4), 1);
        CHECK.due("count(5)", x.count(5), 1);
        x.step(3);
        CHECK.due("and it goes on", x.count(5), 2);
    }

    private static void imageKeepsWhatIsHeard() {
        CHECK.sentence("An IMAGE keeps what is HEARD: nothing, six");
        StiltYard x = Check.yard("plgbo;5");
        x.image();
        for (int n = 0; n < 6; n++) {
            x.hear(0, 1, 3 + n, n > 3);
        }
        int six = x.heights();
        CHECK.due("sway 7 stood, 8 fell", six, 0b10000);
        x.restore();
        CHECK.due("nothing", x.count(8), 0);
        CHECK.due("heights()", x.heights(), 511);
        for (int n = 0; n < 6; n++) {
            x.hear(0, 1, 3 + n, n > 3);
        }
        x.image();
        x.forget();
        for (int n = 0; n < 6; n++) {
            x.hear(4, 3, n, n < 3);
        }
        x.restore();
        CHECK.due("six", x.count(8), 6);
        CHECK.due("heights()", x.heights(), six);
        CHECK.refused("hear 7", x, y -> y.hear(0, 1, 0, true), StiltYard.FULL);
    }

    private static void imageKeepsNoMore() {
        CHECK.sentence("An IMAGE keeps: no letter, no count of yards or of quick()");
        StiltYard x = Check.page("pp");
        x.blank();
        Check.write(x, "pppp;5");
        x.yard();
        Check.write(x, "lll");
        x.image();
        Check.write(x, "x");
        x.quick(0);
        x.restore();
        CHECK.counts("restored", x, 4, 5, 0, 0, 0, 0, 7, 4, 0, 4, 1, 1);
        CHECK.due("the page is as it was", x.fault(), 3);
    }

    // ---- 20: restore

    private static void restoreNoneWasKept() {
        CHECK.sentence("20: STATE: none was kept");
        CHECK.refused("no yard", new StiltYard(), StiltYard::restore, STATE);
        StiltYard x = Check.yard("pppp;5");
        x.step(2);
        CHECK.refused("a yard", x, StiltYard::restore, STATE);
    }

    private static void restoreAnotherYardSince() {
        CHECK.sentence("20: STATE: there is another YARD since");
        StiltYard x = Check.yard("pppp;5");
        x.step(1);
        x.image();
        Check.write(x, "pppp;5");
        x.yard();
        x.step(2);
        CHECK.refused("restore()", x, StiltYard::restore, STATE);
        CHECK.counts("behind", x, 4, 5, 2, 2, 1, 0, 7, 4, 0, 0, 2, 0);
    }

    private static void restoreAfterARefusedYard() {
        CHECK.sentence("20: a refused yard() is no other YARD");
        StiltYard x = Check.yard("pppp;5");
        x.step(1);
        x.image();
        x.step(1);
        x.yard();
        Check.write(x, "pppp;0");
        x.yard();
        CHECK.due("restore()", x.restore(), 1);
        CHECK.counts("behind", x, 4, 5, 1, 1, 1, 0, 7, 4, 0, 6, 1, 0);
    }

    private static void restoreAfterARefusedImage() {
        CHECK.sentence("20: none was kept: a refused image() keeps none");
        StiltYard x = new StiltYard();
        x.image();
        Check.write(x, "pppp;5");
        x.yard();
        CHECK.refused("restore()", x, StiltYard::restore, STATE);
    }

    private static void restoreImageOfTheOtherYard() {
        CHECK.sentence("20: an IMAGE of the YARD that is now");
        StiltYard x = Check.yard("pppppppppppp;5");
        x.image();
        Check.write(x, "gggg;3");
        x.yard();
        x.step(1);
        CHECK.due("image()", x.image(), 1);
        x.step(1);
        CHECK.due("restore()", x.restore(), 1);
        CHECK.counts("behind", x, 4, 3, 1, 3, 1, 0, 9, 0, 0, 0, 2, 0);
        CHECK.refused("about(4, 0)", x, y -> y.about(4, 0), StiltYard.UNKNOWN);
    }

    private static void restoreAgain() {
        CHECK.sentence("20: It goes on from the IMAGE: as often as it is asked to");
        StiltYard x = Check.yard("lgbopp;6");
        x.step(1);
        x.hear(0, 1, 3, true);
        x.image();
        long kept = x.digest();
        for (int time = 0; time < 5; time++) {
            x.step(1);
            x.lay(time, 0);
            x.hear(1, 1, time, false);
            CHECK.due("restore()", x.restore(), 1);
            CHECK.due("digest()", x.digest(), kept);
        }
        CHECK.due("restore() at once", x.restore(), 1);
        CHECK.due("digest()", x.digest(), kept);
    }

    private static void restoreHowManySteps() {
        CHECK.sentence("20: how many STEPS there were: as many as the IMAGE has");
        StiltYard x = Check.yard("pppp;5");
        for (int n = 0; n < 100; n++) {
            x.step(0);
        }
        CHECK.due("image()", x.image(), 100);
        for (int n = 0; n < 100; n++) {
            x.step(0);
        }
        CHECK.due("restore()", x.restore(), 100);
        CHECK.due("count(4)", x.count(4), 100);
    }

    // ---- 21: count

    private static void countOutside() {
        CHECK.sentence("21: OUTSIDE");
        StiltYard none = new StiltYard();
        StiltYard x = Check.yard("pppp;5");
        for (int what : new int[] {LEAST, -1, 12, 13, MOST}) {
            CHECK.refused("count(" + what + "), no yard", none, y -> y.count(what), OUTSIDE);
            CHECK.refused("count(" + what + ")", x, y -> y.count(what), OUTSIDE);
        }
    }

    private static void countWithoutAYard() {
        CHECK.sentence("21: 1 the HEIGHT (0: no YARD), 6 what SWAY he BEARS (0: no YARD)");
        CHECK.counts("no yard", Check.page("pppp;5"), 0, 0, 0, 0, 0, 0, 0, 0, 0, 6, 0, 0);
    }

    private static void countPlaces() {
        CHECK.sentence("21: 0 PLACES");
        for (int places = 4; places <= 12; places++) {
            CHECK.due("count(0)", Check.yard(Check.times(places, 'l') + ";5").count(0), places);
        }
    }

    private static void countHeightAndWhatHeBears() {
        CHECK.sentence("21: 1 the HEIGHT, 6 what SWAY he BEARS");
        for (int height = 1; height <= 9; height++) {
            StiltYard x = Check.yard("pppp;" + height);
            CHECK.due("count(1)", x.count(1), height);
            CHECK.due("count(6)", x.count(6), 12 - height);
            x.blocks(10 - height);
            CHECK.due("count(1) behind blocks()", x.count(1), 10 - height);
            CHECK.due("count(6) behind blocks()", x.count(6), 2 + height);
        }
    }

    private static void countPlaceAndSway() {
        CHECK.sentence("21: 2 the PLACE where he is, 3 the SWAY: the most there is");
        StiltYard x = Check.yard("pppppppppppp;1");
        for (int place = 1; place <= 11; place++) {
            x.step(1);
            CHECK.due("count(2)", x.count(2), place);
            CHECK.due("count(3)", x.count(3), place);
        }
    }

    private static void countStepsAndFalls() {
        CHECK.sentence("21: 4 STEPS, 5 FALLS: as many as 512 calls allow");
        StiltYard x = Check.yard("bbbb;9");
        for (int n = 0; n < 500; n++) {
            x.step(3);
        }
        CHECK.due("count(4)", x.count(4), 500);
        CHECK.due("count(5)", x.count(5), 500);
    }

    private static void countPlainGround() {
        CHECK.sentence("21: 7 PLACES that are plain GROUND (KIND 0): none, all");
        CHECK.due("none", Check.yard("lgbo;5").count(7), 0);
        CHECK.due("all", Check.yard("pppppppppppp;5").count(7), 12);
        StiltYard x = Check.yard("lgbo;5");
        for (int place = 0; place < 4; place++) {
            x.lay(place, 0);
            CHECK.due("count(7)", x.count(7), place + 1);
        }
    }

    private static void countHeard() {
        CHECK.sentence("21: 8 what is HEARD: none to six");
        StiltYard x = Check.yard("lgbo;5");
        for (int n = 0; n <= 6; n++) {
            CHECK.due("count(8)", x.count(8), n);
            x.hear(0, 1, 0, true);
        }
        CHECK.due("count(8) behind a refused one", x.count(8), 6);
    }

    private static void countLetters() {
        CHECK.sentence("21: 9 letters of THE PAGE: none to sixteen");
        StiltYard x = new StiltYard();
        for (int n = 0; n <= 16; n++) {
            CHECK.due("count(9)", x.count(9), n);
            x.letter('~');
        }
        CHECK.due("count(9) behind a refused one", x.count(9), 16);
    }

    private static void countYards() {
        CHECK.sentence("21: 10 how often a YARD was read");
        StiltYard x = new StiltYard();
        x.yard();
        CHECK.due("none", x.count(10), 0);
        Check.write(x, "pppp;5");
        x.yard();
        CHECK.due("one", x.count(10), 1);
        x.yard();
        CHECK.due("a refused one", x.count(10), 1);
        x.image();
        x.restore();
        CHECK.due("restore() reads none", x.count(10), 1);
        Check.write(x, "pppp;5");
        x.yard();
        CHECK.due("the same again", x.count(10), 2);
    }

    private static void countQuicks() {
        CHECK.sentence("21: 11 how often quick() was done");
        StiltYard x = Check.yard("pppp;5");
        x.high();
        x.mend(0);
        x.digest();
        CHECK.due("high(), mend() and digest() are no quick()", x.count(11), 0);
        for (int n = 1; n <= 45; n++) {
            x.quick(n % 5 == 0 ? 0 : 9 + n % 5);
            CHECK.due("count(11)", x.count(11), Math.min(n, 40));
        }
    }

    private static void countChangesNothing() {
        CHECK.sentence("21: count changes nothing");
        StiltYard x = Check.yard("lgbo;5");
        x.step(1);
        long ahead = x.digest();
        for (int what = 0; what <= 11; what++) {
            x.count(what);
        }
        CHECK.due("digest()", x.digest(), ahead);
    }

    // ---- 22: digest

    /** What the calls tell, in the document's order, reckoned with whole numbers of any size. */
    private static long reckoned(StiltYard x, String page) {
        List<Integer> numbers = new ArrayList<>();
        for (int place = 0; place < x.count(0); place++) {
            for (int what = 0; what <= 5; what++) {
                numbers.add(x.about(place, what));
            }
        }
        if (x.count(0) > 0) {
            numbers.addAll(List.of(x.would(0), x.high(), x.mend(0), x.mend(1), x.heights()));
        }
        for (int i = 0; i < page.length(); i++) {
            numbers.add((int) page.charAt(i));
        }
        for (int what = 0; what <= 11; what++) {
            numbers.add(x.count(what));
        }
        BigInteger h = BigInteger.valueOf(1063);
        for (int number : numbers) {
            h = h.multiply(BigInteger.valueOf(31)).add(BigInteger.valueOf(number));
        }
        return h.longValue();
    }

    private static void digestOfNothing() {
        CHECK.sentence("22: h is 1063, no YARD, an empty PAGE: the twelve counts alone");
        long h = 1063;
        for (int what = 0; what <= 11; what++) {
            h *= 31;
        }
        CHECK.due("digest()", new StiltYard().digest(), h);
    }

    private static void digestOfAFullPage() {
        CHECK.sentence("22: letters of THE PAGE: none to sixteen");
        String page = "p ~lgbo;019AZaz!";
        for (int n = 0; n <= 16; n++) {
            String text = page.substring(0, n);
            StiltYard x = Check.page(text);
            CHECK.due("digest() of '" + text + "'", x.digest(), reckoned(x, text));
            StiltYard y = Check.yard("plgb;6");
            Check.write(y, text);
            CHECK.due("digest() of a yard and '" + text + "'", y.digest(), reckoned(y, text));
        }
    }

    private static void digestOfTheLeastYard() {
        CHECK.sentence("22: of each PLACE what about() tells for 0 to 5: four PLACES");
        StiltYard x = Check.yard("plbo;9");
        // HIGH is 8: from the lawn, after rests there, by 2 into the bog, 4; a plain end is reached at once
        CHECK.due("digest()", x.digest(), Check.hash(
            0, 1, 2, 3, 0, 6,
            1, 2, 3, 4, 1, 5,
            3, 2, 4, 6, 3, 5,
            4, 3, 4, 5, 2, 4,
            0, 8, 3, 1, 511,
            4, 9, 0, 0, 0, 0, 3, 1, 0, 0, 1, 0));
    }

    private static void digestOfTheGreatestYard() {
        CHECK.sentence("22: as longs, wrapping: twelve PLACES, all that there can be");
        StiltYard x = Check.yard("plgboplgbopl;5");
        x.step(2);
        x.step(3);
        x.step(3);
        for (int n = 0; n < 6; n++) {
            x.hear(n, 1, 11 - n, true);
        }
        x.quick(0);
        Check.write(x, "~~~~~~~~~~~~~~~~");
        CHECK.due("digest()", x.digest(), reckoned(x, "~~~~~~~~~~~~~~~~"));
    }

    private static void digestAtTheEnd() {
        CHECK.sentence("22: with a YARD what would() tells of 0: at the END, and where he would FALL");
        StiltYard x = Check.yard("pppp;9");
        x.step(3);
        CHECK.due("digest() at the end", x.digest(), reckoned(x, ""));
        x.lay(3, 3);
        CHECK.due("would(0)", x.would(0), 4);
        CHECK.due("digest() in a brook", x.digest(), reckoned(x, ""));
        StiltYard none = Check.yard("bbbbbbbbbbbb;9");
        none.hear(0, 1, 0, true);
        CHECK.due("digest() with NONE for all", none.digest(), reckoned(none, ""));
    }

    /** Each of two objects that differ in one thing alone must tell so. */
    private static void digestTellsOfEach() {
        CHECK.sentence("22: each of these numbers is in it");
        StiltYard[] all = new StiltYard[14];
        for (int i = 0; i < all.length; i++) {
            all[i] = Check.yard(i == 1 ? "pppppp;5" : i == 2 ? "ppppp;6" : "ppppp;5");
        }
        all[3].step(1);
        all[4].step(0);
        all[5].lay(4, 1);
        all[6].hear(0, 1, 2, false);
        all[7].letter('p');
        all[8].letter('l');
        all[9].quick(0);
        Check.write(all[10], "ppppp;5");
        all[10].yard();
        all[11].hear(0, 1, 5, false);
        all[12].lay(0, 3);
        all[12].step(0);
        all[12].lay(0, 0);
        all[13].lay(0, 3);
        for (int i = 0; i < 8; i++) {
            all[13].step(0);
        }
        all[13].lay(0, 0);
        for (int i = 0; i < all.length; i++) {
            for (int j = 0; j < i; j++) {
                CHECK.due("digests " + j + " and " + i + " are the same", all[i].digest() == all[j].digest() ? 1 : 0, 0);
            }
        }
    }

    private static void digestChangesNothing() {
        CHECK.sentence("22: digest changes nothing");
        StiltYard x = Check.yard("plgbo;5");
        x.step(2);
        x.image();
        x.step(1);
        long ahead = x.digest();
        CHECK.due("digest() again", x.digest(), ahead);
        CHECK.counts("behind", x, 5, 5, 3, 6, 2, 0, 7, 1, 0, 0, 1, 0);
        CHECK.due("the image is kept", x.restore(), 1);
    }

    private static void digestBehindFortyQuicks() {
        CHECK.sentence("22: digest is told though quick() was done 40 times");
        StiltYard x = Check.yard("plgbo;5");
        for (int n = 0; n < 41; n++) {
            x.quick(0);
        }
        CHECK.due("digest()", x.digest(), reckoned(x, ""));
    }

    // ---- what it is

    private static void callsToThe512th() {
        CHECK.sentence("An object is used for at most 512 calls");
        StiltYard x = Check.yard("pppp;5");
        for (int call = 8; call <= 511; call++) {
            x.step(0);
        }
        CHECK.due("call 512", x.count(4), 504);
        StiltYard digests = Check.yard("plgboplgbopl;9");
        long due = digests.digest();
        for (int call = 17; call <= 512; call++) {
            CHECK.due("call " + call, digests.digest(), due);
        }
    }
}
