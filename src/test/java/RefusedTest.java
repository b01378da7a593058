import java.util.ArrayList;
import java.util.List;

/**
 * "Refusals, of several the first as told by each call; they change nothing": in states of many sorts every call,
 * with arguments inside, at and outside of each bound, is refused just where the document says so, and an object
 * with a refused call answers everything as one without it does, also what it keeps out of sight (an image).
 */
public final class RefusedTest {
    private static final Check CHECK = new Check("RefusedTest");
    private static final int UNKNOWN = StiltYard.UNKNOWN, OUTSIDE = StiltYard.OUTSIDE, STATE = StiltYard.STATE, FULL = StiltYard.FULL;
    /** What due() answers for a call that is not refused. */
    private static final int FINE = 0;
    private static final int LEAST = Integer.MIN_VALUE, MOST = Integer.MAX_VALUE;

    private static final int[] CODES = {LEAST, -1, 0, 31, 32, 'p', ';', '5', 126, 127, 65536 + 'p', MOST};
    private static final int[] PLACES = {LEAST, -1, 0, 1, 3, 4, 5, 6, 11, 12, MOST};
    private static final int[] WHATS = {LEAST, -1, 0, 1, 2, 3, 4, 5, 6, 9, 10, 11, 12, 13, 14, MOST};
    private static final int[] FARS = {LEAST, -1, 0, 1, 2, 3, 4, MOST};
    private static final int[] SWAYS = {LEAST, -1, 0, 11, 12, MOST};
    private static final int[] RACED = {LEAST, -1, 0, 1, 60, 61, MOST};
    private static final int[] SEEDS = {LEAST, -1, 0, MOST};

    private interface Call {
        int on(StiltYard x);
    }

    /** How an object is made, and the facts by which calls on it are due to be refused. */
    private static final class State {
        final String name;
        boolean yardOnPage = false, kept = false;
        int letters = 0, places = 0, place = 0, heard = 0, quicks = 0;
        private final List<Call> made = new ArrayList<>();

        State(String name) {
            this.name = name;
        }

        State does(Call call) {
            made.add(call);
            return this;
        }

        State writes(String text) {
            for (char c : text.toCharArray()) {
                does(x -> x.letter(c));
            }
            letters = text.length();
            yardOnPage = text.matches("[plgbo]{4,12};[1-9]");
            return this;
        }

        State reads(String text) {
            writes(text).does(StiltYard::yard);
            letters = place = heard = 0;
            kept = yardOnPage = false;
            places = text.length() - 2;
            return this;
        }

        State steps(int far) {
            place += far;
            return does(x -> x.step(far));
        }

        State hears(int times) {
            for (int i = 0; i < times; i++) {
                int sway = i;
                does(x -> x.hear(1, 2, sway, sway > 4));
            }
            heard += times;
            return this;
        }

        State keeps() {
            kept = true;
            return does(StiltYard::image);
        }

        State quicks(int times) {
            for (int i = 0; i < times; i++) {
                does(x -> x.quick(0));
            }
            quicks += times;
            return this;
        }

        StiltYard object() {
            StiltYard x = new StiltYard();
            for (Call call : made) {
                call.on(x);
            }
            return x;
        }
    }

    public static void main(String[] args) {
        for (State state : states()) {
            CHECK.sentence(state.name);
            asTold(state);
            new RefusedTest(state).calls();
        }
        CHECK.end();
    }

    private static List<State> states() {
        return List.of(
            new State("a new object"),
            new State("no yard, a part of one on the page").writes("pppp;"),
            new State("no yard, one on the page").writes("pppp;5"),
            new State("no yard, a full page").writes("pppppppppppppppp"),
            new State("the least yard").reads("plgb;1"),
            new State("the greatest yard").reads("plgboplgbopl;9"),
            new State("on his way").reads("ppgbp;4").steps(2).hears(3).keeps().steps(1).writes("x"),
            new State("one ahead of the end").reads("pppp;9").steps(2).quicks(39),
            new State("at the end").reads("pppp;9").steps(3).writes("pppp;5"),
            new State("all is full").reads("pppppp;1").keeps().steps(1).hears(6).quicks(40).writes("pppppppppppp;9pp"),
            new State("another yard since").reads("pppp;2").keeps().hears(6).quicks(40).reads("bbbbb;3").steps(1),
            new State("the end as another yard's").reads("pppppp;2").steps(2).keeps().steps(3).writes("pppppp;2"));
    }

    /** That the state is what its facts say, so that what is due is due by the right reason. */
    private static void asTold(State state) {
        StiltYard x = state.object();
        CHECK.due("count(0)", x.count(0), state.places);
        CHECK.due("count(2)", x.count(2), state.place);
        CHECK.due("count(8)", x.count(8), state.heard);
        CHECK.due("count(9)", x.count(9), state.letters);
        CHECK.due("count(11)", x.count(11), state.quicks);
    }

    private final State state;
    private final List<Long> untouched;

    private RefusedTest(State state) {
        this.state = state;
        untouched = answers(state.object());
    }

    /** What all calls answer, those last that change something; each object is asked once. */
    private static List<Long> answers(StiltYard x) {
        List<Long> all = new ArrayList<>();
        all.add(x.digest());
        all.add((long) x.fault());
        for (int what = 0; what <= 2; what++) {
            all.add((long) x.races(60, 12345, what));
        }
        for (int far = 0; far <= 3; far++) {
            all.add((long) x.would(far));
        }
        all.add((long) x.quick(0));
        all.add((long) x.quick(10));
        all.add((long) x.hear(1, 1, 7, true));
        all.add(x.digest());
        all.add((long) x.step(1));
        all.add((long) x.restore());
        all.add(x.digest());
        all.add((long) x.races(60, 1, 0));
        all.add((long) x.forget());
        all.add((long) x.image());
        all.add((long) x.yard());
        all.add((long) x.restore());
        all.add((long) x.blank());
        all.add(x.digest());
        return all;
    }

    private void due(String name, Call call, int refusal) {
        StiltYard x = state.object();
        int got = call.on(x);
        if (refusal == FINE) {
            CHECK.due(name + " is refused", got < StiltYard.NONE ? got : FINE, FINE);
            return;
        }
        CHECK.due(name, got, refusal);
        List<Long> touched = answers(x);
        for (int i = 0; i < untouched.size(); i++) {
            CHECK.due("answer " + i + " behind the refused " + name, touched.get(i), untouched.get(i));
        }
    }

    private void calls() {
        page();
        ground();
        steps();
        wouldBe();
        hears();
        races();
        all();
    }

    private static boolean isIn(int number, int least, int most) {
        return number >= least && number <= most;
    }

    private boolean noPlace(int place) {
        return !isIn(place, 0, state.places - 1);
    }

    private int without(int otherwise) {
        return state.places == 0 ? STATE : otherwise;
    }

    private void page() {
        for (int code : CODES) {
            due("letter(" + code + ")", x -> x.letter(code), !isIn(code, 32, 126) ? OUTSIDE : state.letters == 16 ? FULL : FINE);
        }
        due("blank()", StiltYard::blank, FINE);
        due("fault()", StiltYard::fault, FINE);
        due("yard()", StiltYard::yard, state.yardOnPage ? FINE : STATE);
    }

    private void ground() {
        for (int place : PLACES) {
            for (int n : WHATS) {
                due("about(" + place + ", " + n + ")", x -> x.about(place, n), noPlace(place) ? UNKNOWN : isIn(n, 0, 5) ? FINE : OUTSIDE);
                int due = noPlace(place) ? UNKNOWN : isIn(n, 0, 4) ? FINE : OUTSIDE;
                due("as(" + place + ", " + n + ")", x -> x.as(place, n), due);
                due("lay(" + place + ", " + n + ")", x -> x.lay(place, n), due);
            }
        }
    }

    private void steps() {
        for (int height : WHATS) {
            due("blocks(" + height + ")", x -> x.blocks(height), isIn(height, 1, 9) ? without(FINE) : OUTSIDE);
        }
        for (int far : FARS) {
            int due = !isIn(far, 0, 3) ? OUTSIDE : without(noPlace(state.place + far) ? STATE : FINE);
            due("step(" + far + ")", x -> x.step(far), due);
            due("would(" + far + ")", x -> x.would(far), due);
        }
    }

    private void wouldBe() {
        for (int what : WHATS) {
            boolean fine = what == 0 || isIn(what, 10, 13);
            due("quick(" + what + ")", x -> x.quick(what), !fine ? OUTSIDE : without(state.quicks == 40 ? STATE : FINE));
            due("mend(" + what + ")", x -> x.mend(what), isIn(what, 0, 1) ? without(FINE) : OUTSIDE);
        }
        due("high()", StiltYard::high, without(FINE));
    }

    private void hears() {
        for (int place : PLACES) {
            for (int far : FARS) {
                for (int sway : SWAYS) {
                    int full = state.heard == 6 ? FULL : FINE;
                    int due = noPlace(place) ? UNKNOWN : !isIn(far, 1, 3) || !isIn(sway, 0, 11) ? OUTSIDE : full;
                    due("hear(" + place + ", " + far + ", " + sway + ", true)", x -> x.hear(place, far, sway, true), due);
                    due("hear(" + place + ", " + far + ", " + sway + ", false)", x -> x.hear(place, far, sway, false), due);
                }
            }
        }
        due("forget()", StiltYard::forget, FINE);
        due("heights()", StiltYard::heights, without(FINE));
    }

    private void races() {
        for (int steps : RACED) {
            for (int seed : SEEDS) {
                for (int what : WHATS) {
                    boolean fine = isIn(steps, 1, 60) && seed >= 0 && isIn(what, 0, 2);
                    due("races(" + steps + ", " + seed + ", " + what + ")", x -> x.races(steps, seed, what), fine ? without(FINE) : OUTSIDE);
                }
            }
        }
    }

    private void all() {
        due("image()", StiltYard::image, without(FINE));
        due("restore()", StiltYard::restore, state.kept ? FINE : STATE);
        for (int what : WHATS) {
            due("count(" + what + ")", x -> x.count(what), isIn(what, 0, 11) ? FINE : OUTSIDE);
        }
        due("digest()", x -> (int) (x.digest() & 1), FINE);
    }
}
