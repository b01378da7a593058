import java.util.ArrayList;
import java.util.List;

/**
 * The document once more, written apart from the class and in another way (texts, lists, tables of what can
 * be reached in so many steps), for long runs of calls. Slow, and plain on purpose.
 */
final class Model {
    private static final int NONE = -1, UNKNOWN = -101, OUTSIDE = -102, STATE = -103, FULL = -104;

    private String page = "";
    private String ground = "";
    private int height = 0, place = 0, sway = 0, steps = 0, falls = 0;
    private List<int[]> heard = new ArrayList<>();
    private Model image = null;
    private int yards = 0, quicks = 0;

    int letter(int code) {
        if (code < 32 || code > 126) return OUTSIDE;
        if (page.length() == 16) return FULL;
        page += (char) code;
        return page.length();
    }

    int blank() {
        int had = page.length();
        page = "";
        return had;
    }

    int fault() {
        int fine = 0;
        while (fine < page.length() && beginsYard(page.substring(0, fine + 1))) fine++;
        return fine;
    }

    private static boolean beginsYard(String text) {
        return text.matches("[plgbo]{1,12}|[plgbo]{4,12};[1-9]?");
    }

    int yard() {
        if (!page.matches("[plgbo]{4,12};[1-9]")) return STATE;
        ground = page.substring(0, page.length() - 2);
        height = page.charAt(page.length() - 1) - '0';
        page = "";
        place = sway = steps = falls = 0;
        heard = new ArrayList<>();
        image = null;
        yards++;
        return ground.length();
    }

    private boolean none(int p) {
        return p < 0 || p >= ground.length();
    }

    private static int grows(char kind, int far) {
        if (kind == 'l') return far + 1;
        if (kind == 'g' || kind == 'o') return far + 2;
        return kind == 'b' ? 2 * far : far;
    }

    private static int rests(char kind) {
        if (kind == 'l') return -1;
        if (kind == 'b') return 1;
        return kind == 'o' ? 0 : -2;
    }

    private static int then(char kind, int sway, int far) {
        if (far > 0) return sway + grows(kind, far);
        return sway + rests(kind) < 0 ? 0 : sway + rests(kind);
    }

    int about(int p, int what) {
        if (none(p)) return UNKNOWN;
        if (what < 0 || what > 5) return OUTSIDE;
        char kind = ground.charAt(p);
        if (what == 0) return "plgbo".indexOf(kind);
        if (what == 4) return rests(kind) + 2;
        return what == 5 ? tryAt(kind) : grows(kind, what);
    }

    private int tryAt(char kind) {
        int all = bits();
        if (all == 0) return NONE;
        int best = NONE;
        int least = 99;
        for (int s = 0; s <= 11; s++) {
            int fall = 0;
            for (int h = 1; h <= 9; h++) if (s + grows(kind, 1) > 12 - h) fall |= 1 << (h - 1);
            int worst = Math.max(Integer.bitCount(all & fall), Integer.bitCount(all & ~fall));
            if (worst < least) {
                least = worst;
                best = s;
            }
        }
        return best;
    }

    int as(int p, int kind) {
        if (none(p)) return UNKNOWN;
        if (kind < 0 || kind > 4) return OUTSIDE;
        String[] are = {"plgbo", "lo", "g", "b", "o"};
        return are[kind].indexOf(ground.charAt(p)) >= 0 ? p : NONE;
    }

    int lay(int p, int kind) {
        if (none(p)) return UNKNOWN;
        if (kind < 0 || kind > 4) return OUTSIDE;
        int was = "plgbo".indexOf(ground.charAt(p));
        ground = with(p, "plgbo".charAt(kind));
        return was;
    }

    private String with(int p, char kind) {
        return ground.substring(0, p) + kind + ground.substring(p + 1);
    }

    int blocks(int h) {
        if (h < 1 || h > 9) return OUTSIDE;
        if (ground.isEmpty()) return STATE;
        int was = height;
        height = h;
        place = sway = 0;
        return was;
    }

    int step(int far) {
        int swayThen = would(far);
        if (swayThen < 0) return swayThen;
        steps++;
        place += far;
        sway = swayThen;
        if (sway <= 12 - height) return place;
        falls++;
        place = sway = 0;
        return NONE;
    }

    int would(int far) {
        if (far < 0 || far > 3) return OUTSIDE;
        if (none(place + far)) return STATE;
        return then(ground.charAt(place + far), sway, far);
    }

    /** Of the table [n][place][sway]: can he be at the end in n steps? As far as the first n for the start. */
    private static List<boolean[][]> tables(String ground, int h, int p, int s) {
        List<boolean[][]> can = new ArrayList<>();
        int end = ground.length() - 1;
        for (int n = 0; n <= 40; n++) {
            boolean[][] now = new boolean[end + 1][12];
            for (int at = 0; at <= end; at++) {
                for (int w = 0; w <= 12 - h; w++) {
                    now[at][w] = n == 0 ? at == end : next(ground, h, can.get(n - 1), at, w) != NONE;
                }
            }
            can.add(now);
            if (now[p][s]) return can;
        }
        return null;
    }

    private static int next(String ground, int h, boolean[][] can, int at, int w) {
        for (int far = 0; far <= 3 && at + far < ground.length(); far++) {
            int swayThen = then(ground.charAt(at + far), w, far);
            if (swayThen <= 12 - h && can[at + far][swayThen]) return far;
        }
        return NONE;
    }

    private static int fewest(String ground, int h, int p, int s) {
        List<boolean[][]> can = tables(ground, h, p, s);
        return can == null ? NONE : can.size() - 1;
    }

    int quick(int what) {
        if (what != 0 && (what < 10 || what > 13)) return OUTSIDE;
        if (ground.isEmpty() || quicks == 40) return STATE;
        quicks++;
        List<boolean[][]> can = tables(ground, height, place, sway);
        if (can == null) return NONE;
        int n = can.size() - 1;
        if (what == 0) return n;
        if (what - 9 > n) return NONE;
        int p = place;
        int s = sway;
        int far = 0;
        for (int i = 0; i <= what - 10; i++) {
            far = next(ground, height, can.get(n - 1 - i), p, s);
            p += far;
            s = then(ground.charAt(p), s, far);
        }
        return far;
    }

    int high() {
        if (ground.isEmpty()) return STATE;
        int high = NONE;
        for (int h = 1; h <= 9; h++) if (fewest(ground, h, 0, 0) != NONE) high = h;
        return high;
    }

    int mend(int what) {
        if (what < 0 || what > 1) return OUTSIDE;
        if (ground.isEmpty()) return STATE;
        int now = fewest(ground, height, 0, 0);
        int best = now == NONE ? 41 : now;
        int which = NONE;
        for (int p = 0; p < ground.length(); p++) {
            int n = fewest(with(p, 'p'), height, 0, 0);
            if (n != NONE && n < best) {
                best = n;
                which = p;
            }
        }
        return what == 0 || which == NONE ? which : best;
    }

    int hear(int p, int far, int s, boolean fell) {
        if (none(p)) return UNKNOWN;
        if (far < 1 || far > 3 || s < 0 || s > 11) return OUTSIDE;
        if (heard.size() == 6) return FULL;
        heard.add(new int[] {p, far, s, fell ? 1 : 0});
        return heard.size();
    }

    int forget() {
        int was = heard.size();
        heard = new ArrayList<>();
        return was;
    }

    private int bits() {
        int bits = 0;
        for (int h = 1; h <= 9; h++) {
            boolean so = true;
            for (int[] one : heard) {
                boolean falls = one[2] + grows(ground.charAt(one[0]), one[1]) > 12 - h;
                so &= falls == (one[3] == 1);
            }
            if (so) bits += Math.pow(2, h - 1);
        }
        return bits;
    }

    int heights() {
        return ground.isEmpty() ? STATE : bits();
    }

    int races(int count, int seed, int what) {
        if (count < 1 || count > 60 || seed < 0 || what < 0 || what > 2) return OUTSIDE;
        if (ground.isEmpty()) return STATE;
        Model raced = copy();
        long drawn = seed;
        for (int i = 0; i < count; i++) {
            drawn = (drawn * 1103515245L + 12345L) % 2147483648L;
            raced.step(Math.min((int) (drawn / 65536 % 4), ground.length() - 1 - raced.place));
        }
        if (what == 2) return (int) drawn;
        return what == 1 ? raced.place : raced.falls - falls;
    }

    private Model copy() {
        Model m = new Model();
        m.take(this);
        return m;
    }

    private void take(Model m) {
        ground = m.ground;
        height = m.height;
        place = m.place;
        sway = m.sway;
        steps = m.steps;
        falls = m.falls;
        heard = new ArrayList<>(m.heard);
    }

    int image() {
        if (ground.isEmpty()) return STATE;
        image = copy();
        return steps;
    }

    int restore() {
        if (image == null) return STATE;
        take(image);
        return steps;
    }

    int count(int what) {
        if (what < 0 || what > 11) return OUTSIDE;
        int plain = ground.replaceAll("[^p]", "").length();
        int bears = ground.isEmpty() ? 0 : 12 - height;
        return new int[] {ground.length(), height, place, sway, steps, falls, bears, plain, heard.size(), page.length(),
            yards, quicks}[what];
    }

    long digest() {
        List<Integer> all = new ArrayList<>();
        for (int p = 0; p < ground.length(); p++) for (int what = 0; what <= 5; what++) all.add(about(p, what));
        if (!ground.isEmpty()) all.addAll(List.of(would(0), high(), mend(0), mend(1), heights()));
        for (int i = 0; i < page.length(); i++) all.add((int) page.charAt(i));
        for (int what = 0; what <= 11; what++) all.add(count(what));
        long h = 1063;
        for (int number : all) h = 31 * h + number;
        return h;
    }
}
