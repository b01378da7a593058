/** A yard to be crossed on stilts: steps, sway, falls, and what would be. */
public final class StiltYard {
    public static final int NONE = -1, UNKNOWN = -101, OUTSIDE = -102, STATE = -103, FULL = -104;

    private static final int LEAST_PLACES = 4;
    private static final int MOST_PLACES = 12;
    private static final int HIGHEST = 9;
    private static final int FARTHEST = 3;
    private static final int SWAYS = 12;
    private static final int MOST_STEPS = 40;
    private static final int MOST_QUICKS = 40;
    private static final int MOST_RACED = 60;
    private static final int COUNTS = 12;
    private static final int ABOUTS = 6;

    private final Page page = new Page();
    private final Scene now = new Scene();
    private final Scene kept = new Scene();
    private final Scene raced = new Scene();
    private final Ground mended = new Ground();
    private final Route route = new Route();
    private boolean isKept = false;
    private int yardsRead = 0;
    private int quicks = 0;
    private int mendPlace = NONE;
    private int mendSteps = NONE;

    public StiltYard() {
    }

    // ---- the yard

    public int letter(int code) {
        if (code < 32 || code > 126) {
            return OUTSIDE;
        }
        return page.append(code) ? page.size() : FULL;
    }

    public int blank() {
        return page.clear();
    }

    public int fault() {
        return page.firstWrong();
    }

    public int yard() {
        if (!page.isWhole()) {
            return STATE;
        }
        now.begin(page);
        page.clear();
        isKept = false;
        yardsRead++;
        return now.ground.places();
    }

    // ---- ground

    public int about(int place, int what) {
        if (!now.ground.has(place)) {
            return UNKNOWN;
        }
        if (what < 0 || what >= ABOUTS) {
            return OUTSIDE;
        }
        int kind = now.ground.kindAt(place);
        switch (what) {
            case 0:
                return kind;
            case 4:
                return Kind.onSpot(kind) + 2;
            case 5:
                return now.heard.bestTry(now.ground, place);
            default:
                return Kind.growth(kind, what);
        }
    }

    public int as(int place, int kind) {
        if (!now.ground.has(place)) {
            return UNKNOWN;
        }
        if (!Kind.isKind(kind)) {
            return OUTSIDE;
        }
        return Kind.isA(now.ground.kindAt(place), kind) ? place : NONE;
    }

    public int lay(int place, int kind) {
        if (!now.ground.has(place)) {
            return UNKNOWN;
        }
        if (!Kind.isKind(kind)) {
            return OUTSIDE;
        }
        return now.ground.put(place, kind);
    }

    // ---- steps

    public int blocks(int height) {
        if (height < 1 || height > HIGHEST) {
            return OUTSIDE;
        }
        if (!hasYard()) {
            return STATE;
        }
        return now.changeHeight(height);
    }

    public int step(int far) {
        int refusal = refusalOfStep(far);
        if (refusal != 0) {
            return refusal;
        }
        return now.go(far) ? now.place : NONE;
    }

    public int would(int far) {
        int refusal = refusalOfStep(far);
        return refusal != 0 ? refusal : now.swayBy(far);
    }

    // ---- what would be

    public int quick(int what) {
        if (what != 0 && (what < 10 || what > 13)) {
            return OUTSIDE;
        }
        if (!hasYard() || quicks >= MOST_QUICKS) {
            return STATE;
        }
        quicks++;
        int fewest = route.fewest(now.ground, now.height, now.place, now.sway);
        return what == 0 ? fewest : route.farOfStep(what - 9);
    }

    public int high() {
        return hasYard() ? greatestHeight() : STATE;
    }

    public int mend(int what) {
        if (what != 0 && what != 1) {
            return OUTSIDE;
        }
        if (!hasYard()) {
            return STATE;
        }
        findMend();
        return what == 0 ? mendPlace : mendSteps;
    }

    // ---- what is heard

    public int hear(int place, int far, int sway, boolean fell) {
        if (!now.ground.has(place)) {
            return UNKNOWN;
        }
        if (far < 1 || far > FARTHEST || sway < 0 || sway >= SWAYS) {
            return OUTSIDE;
        }
        return now.heard.append(place, far, sway, fell) ? now.heard.size() : FULL;
    }

    public int forget() {
        return now.heard.clear();
    }

    public int heights() {
        return hasYard() ? now.heard.heightBits(now.ground) : STATE;
    }

    public int races(int steps, int seed, int what) {
        if (steps < 1 || steps > MOST_RACED || seed < 0 || what < 0 || what > 2) {
            return OUTSIDE;
        }
        if (!hasYard()) {
            return STATE;
        }
        raced.copyFrom(now);
        int seedThen = raced.race(steps, seed);
        switch (what) {
            case 0:
                return raced.falls - now.falls;
            case 1:
                return raced.place;
            default:
                return seedThen;
        }
    }

    // ---- what is told of all

    public int image() {
        if (!hasYard()) {
            return STATE;
        }
        kept.copyFrom(now);
        isKept = true;
        return kept.steps;
    }

    public int restore() {
        if (!isKept) {
            return STATE;
        }
        now.copyFrom(kept);
        return now.steps;
    }

    public int count(int what) {
        switch (what) {
            case 0:
                return now.ground.places();
            case 1:
                return now.height;
            case 2:
                return now.place;
            case 3:
                return now.sway;
            case 4:
                return now.steps;
            case 5:
                return now.falls;
            case 6:
                return hasYard() ? bearable(now.height) : 0;
            case 7:
                return now.ground.plainPlaces();
            case 8:
                return now.heard.size();
            case 9:
                return page.size();
            case 10:
                return yardsRead;
            case 11:
                return quicks;
            default:
                return OUTSIDE;
        }
    }

    public long digest() {
        long h = 1063L;
        for (int place = 0; place < now.ground.places(); place++) {
            for (int what = 0; what < ABOUTS; what++) {
                h = 31L * h + about(place, what);
            }
        }
        if (hasYard()) {
            findMend();
            h = 31L * h + would(0);
            h = 31L * h + greatestHeight();
            h = 31L * h + mendPlace;
            h = 31L * h + mendSteps;
            h = 31L * h + heights();
        }
        for (int i = 0; i < page.size(); i++) {
            h = 31L * h + page.codeAt(i);
        }
        for (int what = 0; what < COUNTS; what++) {
            h = 31L * h + count(what);
        }
        return h;
    }

    private boolean hasYard() {
        return now.ground.places() > 0;
    }

    /** The answer that refuses a step so far, or 0. */
    private int refusalOfStep(int far) {
        if (far < 0 || far > FARTHEST) {
            return OUTSIDE;
        }
        return now.ground.has(now.place + far) ? 0 : STATE;
    }

    private int greatestHeight() {
        for (int height = HIGHEST; height >= 1; height--) {
            if (route.fewest(now.ground, height, 0, 0) != NONE) {
                return height;
            }
        }
        return NONE;
    }

    private void findMend() {
        mendPlace = NONE;
        mendSteps = NONE;
        int best = route.fewest(now.ground, now.height, 0, 0);
        mended.copyFrom(now.ground);
        for (int place = 0; place < mended.places(); place++) {
            int was = mended.put(place, Kind.PLAIN);
            int fewest = route.fewest(mended, now.height, 0, 0);
            mended.put(place, was);
            if (fewest != NONE && (best == NONE || fewest < best)) {
                best = fewest;
                mendPlace = place;
                mendSteps = fewest;
            }
        }
    }

    private static int bearable(int height) {
        return 12 - height;
    }

    /** The kinds of ground, by their numbers. */
    private static final class Kind {
        static final int PLAIN = 0, LAWN = 1, GRAVEL = 2, BROOK = 3, BOG = 4;
        private static final String LETTERS = "plgbo";

        private Kind() {
        }

        static boolean isKind(int kind) {
            return kind >= PLAIN && kind <= BOG;
        }

        /** NONE for a letter that tells no kind. */
        static int ofLetter(int code) {
            return LETTERS.indexOf((char) code);
        }

        static boolean isA(int kind, int asked) {
            return asked == PLAIN || kind == asked || (asked == LAWN && kind == BOG);
        }

        static int growth(int kind, int far) {
            switch (kind) {
                case LAWN:
                    return far + 1;
                case GRAVEL:
                case BOG:
                    return far + 2;
                case BROOK:
                    return far + far;
                default:
                    return far;
            }
        }

        static int onSpot(int kind) {
            switch (kind) {
                case LAWN:
                    return -1;
                case BROOK:
                    return 1;
                case BOG:
                    return 0;
                default:
                    return -2;
            }
        }

        static int swayAfter(int kind, int sway, int far) {
            return far == 0 ? Math.max(0, sway + onSpot(kind)) : sway + growth(kind, far);
        }
    }

    /** The letters that came, until they are read as a yard. */
    private static final class Page {
        private static final int MOST_LETTERS = 16;

        private final int[] codes = new int[MOST_LETTERS];
        private int size = 0;

        int size() {
            return size;
        }

        int codeAt(int i) {
            return i >= 0 && i < size && i < MOST_LETTERS ? codes[i] : 0;
        }

        boolean append(int code) {
            if (size < 0 || size >= MOST_LETTERS) {
                return false;
            }
            codes[size] = code;
            size++;
            return true;
        }

        int clear() {
            int had = size;
            size = 0;
            return had;
        }

        /** How many kinds of ground the page begins with, as far as a yard can have them. */
        int placesAhead() {
            int places = 0;
            while (places < size && places < MOST_PLACES && Kind.ofLetter(codeAt(places)) != NONE) {
                places++;
            }
            return places;
        }

        /** Where the first letter is that no yard has there; the size, if all are fine. */
        int firstWrong() {
            int places = placesAhead();
            if (places >= size || places < LEAST_PLACES || codeAt(places) != ';') {
                return places;
            }
            int digit = places + 1;
            if (digit >= size || codeAt(digit) < '1' || codeAt(digit) > '9') {
                return digit;
            }
            return digit + 1;
        }

        boolean isWhole() {
            int places = placesAhead();
            return size == places + 2 && firstWrong() == size;
        }

        /** The height that a whole page tells. */
        int height() {
            return codeAt(size - 1) - '0';
        }
    }

    /** What lies where. */
    private static final class Ground {
        private final int[] kinds = new int[MOST_PLACES];
        private int places = 0;

        int places() {
            return places;
        }

        boolean has(int place) {
            return place >= 0 && place < places && place < MOST_PLACES;
        }

        int kindAt(int place) {
            return has(place) ? kinds[place] : Kind.PLAIN;
        }

        int put(int place, int kind) {
            if (!has(place)) {
                return Kind.PLAIN;
            }
            int was = kinds[place];
            kinds[place] = kind;
            return was;
        }

        int plainPlaces() {
            int plain = 0;
            for (int place = 0; place < places; place++) {
                if (kindAt(place) == Kind.PLAIN) {
                    plain++;
                }
            }
            return plain;
        }

        void read(Page page) {
            places = page.placesAhead();
            for (int place = 0; place < places; place++) {
                put(place, Kind.ofLetter(page.codeAt(place)));
            }
        }

        void copyFrom(Ground other) {
            places = other.places;
            for (int place = 0; place < places; place++) {
                put(place, other.kindAt(place));
            }
        }
    }

    /** What is heard of one whose height is not known. */
    private static final class Heard {
        private static final int MOST_HEARD = 6;

        private final int[] places = new int[MOST_HEARD];
        private final int[] fars = new int[MOST_HEARD];
        private final int[] sways = new int[MOST_HEARD];
        private final boolean[] falls = new boolean[MOST_HEARD];
        private int size = 0;

        int size() {
            return size;
        }

        boolean append(int place, int far, int sway, boolean fell) {
            if (size < 0 || size >= MOST_HEARD) {
                return false;
            }
            places[size] = place;
            fars[size] = far;
            sways[size] = sway;
            falls[size] = fell;
            size++;
            return true;
        }

        int clear() {
            int had = size;
            size = 0;
            return had;
        }

        void copyFrom(Heard other) {
            size = 0;
            for (int i = 0; i < other.size && i < MOST_HEARD; i++) {
                append(other.places[i], other.fars[i], other.sways[i], other.falls[i]);
            }
        }

        int heightBits(Ground ground) {
            int bits = 0;
            for (int height = 1; height <= HIGHEST; height++) {
                if (allows(ground, height)) {
                    bits |= 1 << (height - 1);
                }
            }
            return bits;
        }

        private boolean allows(Ground ground, int height) {
            for (int i = 0; i < size && i < MOST_HEARD; i++) {
                int sway = sways[i] + Kind.growth(ground.kindAt(places[i]), fars[i]);
                if (falls[i] != (sway > bearable(height))) {
                    return false;
                }
            }
            return true;
        }

        /** With how much sway a step of 1 to the place tells most, at worst; NONE, if no height is left. */
        int bestTry(Ground ground, int place) {
            int bits = heightBits(ground);
            if (bits == 0) {
                return NONE;
            }
            int growth = Kind.growth(ground.kindAt(place), 1);
            int best = 0;
            int fewestLeft = HIGHEST + 1;
            for (int sway = 0; sway < SWAYS; sway++) {
                int left = leftAtWorst(bits, sway + growth);
                if (left < fewestLeft) {
                    fewestLeft = left;
                    best = sway;
                }
            }
            return best;
        }

        private static int leftAtWorst(int bits, int sway) {
            int fallen = 0;
            int upright = 0;
            for (int height = 1; height <= HIGHEST; height++) {
                if ((bits >> (height - 1) & 1) == 0) {
                    continue;
                }
                if (sway > bearable(height)) {
                    fallen++;
                } else {
                    upright++;
                }
            }
            return Math.max(fallen, upright);
        }
    }

    /** All that an image keeps. */
    private static final class Scene {
        final Ground ground = new Ground();
        final Heard heard = new Heard();
        int height = 0;
        int place = 0;
        int sway = 0;
        int steps = 0;
        int falls = 0;

        void begin(Page page) {
            ground.read(page);
            heard.clear();
            height = page.height();
            steps = 0;
            falls = 0;
            backToStart();
        }

        void copyFrom(Scene other) {
            ground.copyFrom(other.ground);
            heard.copyFrom(other.heard);
            height = other.height;
            place = other.place;
            sway = other.sway;
            steps = other.steps;
            falls = other.falls;
        }

        int changeHeight(int to) {
            int was = height;
            height = to;
            backToStart();
            return was;
        }

        int swayBy(int far) {
            return Kind.swayAfter(ground.kindAt(place + far), sway, far);
        }

        /** One step; false: he falls. */
        boolean go(int far) {
            int swayThen = swayBy(far);
            steps++;
            if (swayThen > bearable(height)) {
                falls++;
                backToStart();
                return false;
            }
            place += far;
            sway = swayThen;
            return true;
        }

        /** So many steps as the draws tell; answers the seed then. */
        int race(int count, int seed) {
            long drawn = seed;
            for (int i = 0; i < count; i++) {
                drawn = (1103515245L * drawn + 12345L) & 0x7fffffffL;
                int far = (int) ((drawn >> 16) & 3L);
                go(Math.min(far, ground.places() - 1 - place));
            }
            return (int) drawn;
        }

        private void backToStart() {
            place = 0;
            sway = 0;
        }
    }

    /**
     * The fewest steps to the end. Spots (a place and a sway) are looked at in the order in which they
     * are first reached, nearer steps first, so the first way found is the one of the least steps.
     */
    private static final class Route {
        private static final int SPOTS = MOST_PLACES * SWAYS;

        private final int[] queue = new int[SPOTS];
        private final int[] stepsTo = new int[SPOTS];
        private final int[] cameFrom = new int[SPOTS];
        private final int[] cameBy = new int[SPOTS];
        private int queued = 0;
        private int end = NONE;

        int fewest(Ground ground, int height, int place, int sway) {
            queued = 0;
            end = NONE;
            for (int spot = 0; spot < SPOTS; spot++) {
                stepsTo[spot] = NONE;
            }
            int last = ground.places() - 1;
            reach(place, sway, NONE, 0, last);
            for (int i = 0; i < queued && i < SPOTS && end == NONE; i++) {
                goOn(ground, bearable(height), queue[i], last);
            }
            return stepsOf(end);
        }

        /** How far the nth step (from 1) of the way found last is; NONE, if it has none such. */
        int farOfStep(int nth) {
            int spot = end;
            for (int n = stepsOf(end); n > nth && isSpot(spot); n--) {
                spot = cameFrom[spot];
            }
            return nth >= 1 && isSpot(spot) && stepsTo[spot] == nth ? cameBy[spot] : NONE;
        }

        private void goOn(Ground ground, int bears, int spot, int last) {
            if (stepsOf(spot) >= MOST_STEPS) {
                return;
            }
            int place = spot / SWAYS;
            int sway = spot % SWAYS;
            for (int far = 0; far <= FARTHEST && place + far <= last && end == NONE; far++) {
                int swayThen = Kind.swayAfter(ground.kindAt(place + far), sway, far);
                if (swayThen <= bears) {
                    reach(place + far, swayThen, spot, far, last);
                }
            }
        }

        private void reach(int place, int sway, int from, int far, int last) {
            int spot = place * SWAYS + sway;
            if (!isSpot(spot) || stepsTo[spot] != NONE || queued < 0 || queued >= SPOTS) {
                return;
            }
            stepsTo[spot] = stepsOf(from) + 1;
            cameFrom[spot] = from;
            cameBy[spot] = far;
            queue[queued] = spot;
            queued++;
            if (place == last) {
                end = spot;
            }
        }

        /** NONE for no spot, so that the first spot, which comes from none, is 0 steps away. */
        private int stepsOf(int spot) {
            return isSpot(spot) ? stepsTo[spot] : NONE;
        }

        private static boolean isSpot(int spot) {
            return spot >= 0 && spot < SPOTS;
        }
    }
}
