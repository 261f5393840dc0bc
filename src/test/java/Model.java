import java.util.ArrayList;
import java.util.List;
import java.util.TreeMap;

/** The document told over in the slowest and plainest way: every tooth, every point, every start, every set. */
final class Model {
    private static final int BAD = -1, STATE = -2, FULL = -3, NONE = -9, NO = -1000000;

    /** Everything that an image keeps. */
    private static final class Now {
        int lies = 0;
        List<Integer> ink = new ArrayList<>();
        List<int[]> curves = new ArrayList<>();
        List<Now> older = new ArrayList<>();

        Now copy() {
            Now n = new Now();
            n.lies = lies;
            n.ink = new ArrayList<>(ink);
            n.curves = new ArrayList<>(curves);
            n.older = new ArrayList<>(older);
            return n;
        }
    }

    private final StringBuilder text = new StringBuilder();
    private List<Integer> rings = new ArrayList<>();
    private List<Integer> wheels = new ArrayList<>();
    private int pens = 0;
    private Now now = new Now();
    private final Now[] images = new Now[2];
    private final List<int[]> seen = new ArrayList<>();
    private long trace = 0;

    private static int gcd(int a, int b) {
        int d = 1;
        for (int i = 1; i <= Math.max(a, b); i++) {
            if (a % i == 0 && b % i == 0) {
                d = i;
            }
        }
        return d;
    }

    private boolean noRing(int r) {
        return r < 0 || r >= rings.size();
    }

    private boolean noWheel(int w) {
        return w < 0 || w >= wheels.size();
    }

    private boolean noPen(int p) {
        return p < 0 || p >= pens;
    }

    private boolean noCurve(int k) {
        return k < 0 || k >= now.curves.size();
    }

    private boolean fits(int r, int w) {
        return wheels.get(w) < rings.get(r);
    }

    private int gcdOf(int r, int w) {
        return gcd(rings.get(r), wheels.get(w));
    }

    private int longOf(int r, int w) {
        return rings.get(r) * (wheels.get(w) / gcdOf(r, w));
    }

    private static boolean tipAtTooth(int teeth, int g, int start, int tooth) {
        return tooth < teeth && Math.abs(tooth - start) % g == 0;
    }

    private boolean tip(int[] c, int point, int line) {
        int teeth = rings.get(c[0]);
        for (int t = 0; t < teeth; t++) {
            if (line == c[2] && (360 / teeth * t + c[5]) % 360 == point && tipAtTooth(teeth, gcdOf(c[0], c[1]), c[3], t)) {
                return true;
            }
        }
        return false;
    }

    private int[][] shownMap() {
        int[][] map = new int[10][360];
        for (int[] row : map) {
            java.util.Arrays.fill(row, NONE);
        }
        for (int k = 0; k < now.curves.size(); k++) {
            int[] c = now.curves.get(k);
            int teeth = rings.get(c[0]);
            for (int t = 0; t < teeth; t++) {
                if (tipAtTooth(teeth, gcdOf(c[0], c[1]), c[3], t)) {
                    map[c[2]][(360 / teeth * t + c[5]) % 360] = k;
                }
            }
        }
        return map;
    }

    int type(int c) {
        if (c < 0 || c > 255) {
            return BAD;
        }
        if (text.length() == 100) {
            return FULL;
        }
        text.append((char) c);
        return text.length();
    }

    int clear() {
        int had = text.length();
        text.setLength(0);
        return had;
    }

    int box() {
        List<String> tokens = new ArrayList<>();
        List<Integer> places = new ArrayList<>();
        java.util.regex.Matcher m = java.util.regex.Pattern.compile("[a-z]+|[0-9]+|[^ ]", java.util.regex.Pattern.DOTALL).matcher(text);
        while (m.find()) {
            tokens.add(m.group());
            places.add(m.start());
        }
        tokens.add("");
        places.add(text.length());
        List<Integer> newRings = new ArrayList<>();
        List<Integer> newWheels = new ArrayList<>();
        List<Integer> newInk = new ArrayList<>();
        int at = 0;
        while (!tokens.get(at).isEmpty()) {
            String letter = tokens.get(at);
            List<Integer> to = letter.equals("r") ? newRings : letter.equals("w") ? newWheels : letter.equals("p") ? newInk : null;
            int most = letter.equals("w") ? 6 : 4;
            if (to == null || to.size() == most) {
                return -10 - places.get(at);
            }
            at++;
            String number = tokens.get(at);
            if (!number.matches("0|[1-9][0-9]{0,2}")) {
                return -10 - places.get(at);
            }
            int n = Integer.parseInt(number);
            boolean may = letter.equals("r") ? n >= 12 && n <= 120 && 360 % n == 0 : letter.equals("p") || n >= 3 && n <= 99;
            if (!may) {
                return -10 - places.get(at);
            }
            at++;
            if (!tokens.get(at).equals(";")) {
                return -10 - places.get(at);
            }
            to.add(n);
            at++;
        }
        rings = newRings;
        wheels = newWheels;
        pens = newInk.size();
        now = new Now();
        now.ink = newInk;
        images[0] = null;
        images[1] = null;
        seen.clear();
        text.setLength(0);
        return rings.size() + wheels.size() + pens;
    }

    int ring(int r) {
        return noRing(r) ? BAD : rings.get(r);
    }

    int wheel(int r, int w, int what) {
        if (noRing(r) || noWheel(w) || what < 0 || what > 3) {
            return BAD;
        }
        if (what == 0) {
            return wheels.get(w);
        }
        if (!fits(r, w)) {
            return NONE;
        }
        return what == 1 ? rings.get(r) / gcdOf(r, w) : what == 2 ? wheels.get(w) / gcdOf(r, w) : longOf(r, w);
    }

    int pen(int p, int what) {
        if (noPen(p) || what < 0 || what > 1) {
            return BAD;
        }
        if (what == 0) {
            return now.ink.get(p);
        }
        int n = 0;
        for (int[] row : shownMap()) {
            for (int k : row) {
                n += k != NONE && now.curves.get(k)[4] == p ? 1 : 0;
            }
        }
        return n;
    }

    int curve(int k, int what) {
        if (noCurve(k) || what < 0 || what > 6) {
            return BAD;
        }
        if (what < 6) {
            return now.curves.get(k)[what];
        }
        int n = 0;
        for (int[] row : shownMap()) {
            for (int shown : row) {
                n += shown == k ? 1 : 0;
            }
        }
        return n;
    }

    private void remember() {
        Now before = now.copy();
        now = now.copy();
        before.older = new ArrayList<>();
        now.older.add(before);
        if (now.older.size() > 10) {
            now.older.remove(0);
        }
    }

    int draws(int r, int w, int hole, int start, int p) {
        if (noRing(r) || noWheel(w) || noPen(p) || hole < 1 || hole > 9 || start < 0 || start >= rings.get(r)) {
            return BAD;
        }
        if (!fits(r, w) || now.ink.get(p) < longOf(r, w)) {
            return STATE;
        }
        if (now.curves.size() == 12) {
            return FULL;
        }
        remember();
        now.curves.add(new int[] {r, w, hole, start, p, now.lies});
        now.ink.set(p, now.ink.get(p) - longOf(r, w));
        return now.curves.size() - 1;
    }

    int rubs(int k) {
        if (noCurve(k)) {
            return BAD;
        }
        remember();
        now.curves.remove(k);
        return now.curves.size();
    }

    int spins(int n) {
        if (n < 1 || n > 359) {
            return BAD;
        }
        remember();
        now.lies = (now.lies + n) % 360;
        return now.lies;
    }

    int fills(int p, int n) {
        if (noPen(p) || n < 1 || n > 999) {
            return BAD;
        }
        if (now.ink.get(p) == 999) {
            return STATE;
        }
        remember();
        now.ink.set(p, Math.min(999, now.ink.get(p) + n));
        return now.ink.get(p);
    }

    int undo() {
        if (now.older.isEmpty()) {
            return STATE;
        }
        List<Now> older = new ArrayList<>(now.older);
        Now before = older.remove(older.size() - 1).copy();
        before.older = older;
        now = before;
        return older.size();
    }

    int now(int what) {
        if (what == 0) {
            return now.lies;
        }
        if (what == 1) {
            return now.curves.size();
        }
        if (what == 2) {
            int n = 0;
            for (int[] row : shownMap()) {
                for (int k : row) {
                    n += k != NONE ? 1 : 0;
                }
            }
            return n;
        }
        return what == 3 ? like() : BAD;
    }

    private int like() {
        int[][] map = shownMap();
        int greatest = 1;
        for (int d = 1; d <= 360; d++) {
            boolean same = 360 % d == 0;
            for (int line = 1; line <= 9 && same; line++) {
                for (int p = 0; p < 360 && same; p++) {
                    int here = map[line][p];
                    int there = map[line][(p + 360 / d) % 360];
                    int penHere = here == NONE ? NONE : now.curves.get(here)[4];
                    int penThere = there == NONE ? NONE : now.curves.get(there)[4];
                    same = penHere == penThere;
                }
            }
            greatest = same ? d : greatest;
        }
        return greatest;
    }

    int shown(int point, int line) {
        if (point < 0 || point > 359 || line < 1 || line > 9) {
            return BAD;
        }
        return shownMap()[line][point];
    }

    int petals(int r, int n) {
        if (noRing(r) || n < 1 || n > 120) {
            return BAD;
        }
        for (int w = 0; w < wheels.size(); w++) {
            if (fits(r, w) && rings.get(r) == n * gcdOf(r, w)) {
                return w;
            }
        }
        return NONE;
    }

    int closes(int r, int line, int what) {
        if (noRing(r) || line < 1 || line > 9 || what < 0 || what > 1) {
            return BAD;
        }
        int[] row = shownMap()[line];
        int teeth = rings.get(r);
        boolean needed = false;
        for (int t = 0; t < teeth; t++) {
            needed |= row[(360 / teeth * t + now.lies) % 360] == NONE;
        }
        if (!needed) {
            return what == 0 ? 0 : NONE;
        }
        int fewest = NONE;
        int by = NONE;
        for (int w = wheels.size() - 1; w >= 0; w--) {
            if (fits(r, w)) {
                int more = closingBy(row, teeth, gcdOf(r, w));
                if (by == NONE || more <= fewest) {
                    fewest = more;
                    by = w;
                }
            }
        }
        return what == 0 ? fewest : by;
    }

    /** Draws a curve that starts at each tooth that is still bare: no other kind of start would help it. */
    private int closingBy(int[] row, int teeth, int g) {
        boolean[] tips = new boolean[teeth];
        for (int t = 0; t < teeth; t++) {
            tips[t] = row[(360 / teeth * t + now.lies) % 360] != NONE;
        }
        int more = 0;
        for (int start = 0; start < teeth; start++) {
            if (!tips[start]) {
                more++;
                for (int t = 0; t < teeth; t++) {
                    tips[t] |= tipAtTooth(teeth, g, start, t);
                }
            }
        }
        return more;
    }

    /** All sets, told by how long they are: the most petals of each length. */
    int best(int p, int what) {
        if (noPen(p) || what < 0 || what > 1) {
            return BAD;
        }
        TreeMap<Integer, Integer> sets = new TreeMap<>();
        sets.put(0, 0);
        for (int r = 0; r < rings.size(); r++) {
            for (int w = 0; w < wheels.size(); w++) {
                if (fits(r, w)) {
                    TreeMap<Integer, Integer> more = new TreeMap<>(sets);
                    for (int length : sets.keySet()) {
                        if (length + longOf(r, w) <= now.ink.get(p)) {
                            more.merge(length + longOf(r, w), sets.get(length) + rings.get(r) / gcdOf(r, w), Math::max);
                        }
                    }
                    sets = more;
                }
            }
        }
        int most = -1;
        int least = 0;
        for (int length : sets.keySet()) {
            if (sets.get(length) > most) {
                most = sets.get(length);
                least = length;
            }
        }
        return what == 0 ? most : least;
    }

    int meet(int k, int l) {
        if (noCurve(k) || noCurve(l) || k == l) {
            return BAD;
        }
        int n = 0;
        for (int point = 0; point < 360; point++) {
            for (int line = 1; line <= 9; line++) {
                n += tip(now.curves.get(k), point, line) && tip(now.curves.get(l), point, line) ? 1 : 0;
            }
        }
        return n;
    }

    int odds(int r, int w, int point, int what) {
        if (noRing(r) || noWheel(w) || point < 0 || point > 359 || what < 0 || what > 1) {
            return BAD;
        }
        if (!fits(r, w)) {
            return STATE;
        }
        int upper = 0;
        for (int start = 0; start < rings.get(r); start++) {
            upper += tip(new int[] {r, w, 1, start, 0, now.lies}, point, 1) ? 1 : 0;
        }
        int lower = rings.get(r);
        int d = gcd(upper, lower);
        return what == 0 ? upper / d : lower / d;
    }

    int sees(int tooth, int tip) {
        if (tooth < 0 || tooth > 119 || tip < 0 || tip > 1) {
            return BAD;
        }
        if (seen.size() == 6) {
            return FULL;
        }
        seen.add(new int[] {tooth, tip});
        return seen.size();
    }

    int forget() {
        int had = seen.size();
        seen.clear();
        return had;
    }

    private List<int[]> twos(int r) {
        List<int[]> all = new ArrayList<>();
        for (int w = 0; w < wheels.size(); w++) {
            for (int start = 0; fits(r, w) && start < rings.get(r); start++) {
                boolean so = true;
                for (int[] s : seen) {
                    so &= tipAtTooth(rings.get(r), gcdOf(r, w), start, s[0]) == (s[1] == 1);
                }
                if (so) {
                    all.add(new int[] {w, start});
                }
            }
        }
        return all;
    }

    int guess(int r, int what) {
        if (noRing(r) || what < 0 || what > 1) {
            return BAD;
        }
        List<int[]> all = twos(r);
        if (what == 0) {
            return all.size();
        }
        return all.isEmpty() ? NONE : 1000 * all.get(0)[0] + all.get(0)[1];
    }

    int look(int r) {
        if (noRing(r)) {
            return BAD;
        }
        List<int[]> all = twos(r);
        int[] divisors = new int[wheels.size()];
        for (int w = 0; w < divisors.length; w++) {
            divisors[w] = gcdOf(r, w);
        }
        int least = all.size();
        int tooth = NONE;
        for (int t = rings.get(r) - 1; t >= 0 && all.size() >= 2; t--) {
            int with = 0;
            for (int[] two : all) {
                with += tipAtTooth(rings.get(r), divisors[two[0]], two[1], t) ? 1 : 0;
            }
            int greater = Math.max(with, all.size() - with);
            if (greater < all.size() && greater <= least) {
                least = greater;
                tooth = t;
            }
        }
        return tooth;
    }

    int mark(int kind, int k) {
        if (kind < 0 || kind > 5 || noCurve(k)) {
            return NO;
        }
        int[] c = now.curves.get(k);
        int petals = wheel(c[0], c[1], 1);
        int rounds = wheel(c[0], c[1], 2);
        trace += new long[] {1, 11, 101, 1011, 10101, 100001}[kind];
        return new int[] {petals, petals + c[2], petals - rounds, (petals + c[2]) * 2, petals - rounds + k, petals + c[3]}[kind];
    }

    int keep(int image) {
        if (image < 0 || image > 1) {
            return BAD;
        }
        images[image] = now.copy();
        return now.curves.size();
    }

    int back(int image) {
        if (image < 0 || image > 1) {
            return BAD;
        }
        if (images[image] == null) {
            return STATE;
        }
        now = images[image].copy();
        return now.curves.size();
    }

    int count(int what) {
        if (what < 0 || what > 5) {
            return BAD;
        }
        return new int[] {rings.size(), wheels.size(), pens, seen.size(), now.older.size(), text.length()}[what];
    }

    long trace() {
        return trace;
    }
}
