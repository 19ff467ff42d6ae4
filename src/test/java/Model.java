import java.math.BigInteger;
import java.util.ArrayDeque;
import java.util.ArrayList;
import java.util.Arrays;
import java.util.Deque;
import java.util.HashSet;
import java.util.List;
import java.util.Set;

/**
 * The document once more, in its most roundabout form: every question is answered by doing all acts on a copy of the
 * whole town, every set and every order is gone through one by one. It is what ModelTest compares DawnCoin with.
 */
final class Model {
    static final int UNKNOWN = -1, OUTSIDE = -2, STATE = -3, FULL = -4, NONE = -9;

    /** How all stands, with the rules of the acts. */
    final class Scene {
        boolean[][] said = new boolean[5][6];
        boolean[][] denied = new boolean[5][6];
        int[][] purse = new int[4][5];
        int day;

        Scene copy() {
            Scene s = new Scene();
            for (int r = 0; r < 5; r++) {
                s.said[r] = said[r].clone();
                s.denied[r] = denied[r].clone();
            }
            for (int p = 0; p < 4; p++) {
                s.purse[p] = purse[p].clone();
            }
            s.day = day;
            return s;
        }

        boolean proved(int r) {
            return days[r] > 0 && days[r] <= day;
        }

        int worthOf(int r) {
            if (proved(r)) {
                return lies[r] ? 0 : words[r] + words[r];
            }
            int w = words[r];
            for (int t = 0; t < 6; t++) {
                w += said[r][t] ? 1 : 0;
                w -= denied[r][t] ? 1 : 0;
            }
            return w < 0 ? 0 : w;
        }

        int worthOfPurse(int p) {
            int sum = 0;
            for (int r = 0; r < rumours; r++) {
                sum += purse[p][r] * worthOf(r);
            }
            return sum;
        }

        int dawnOnce() {
            int struck = 0;
            for (int p = 0; p < people; p++) {
                for (int r = 0; r < rumours; r++) {
                    if (said[r][seats[p]] && purse[p][r] != 99) {
                        purse[p][r]++;
                        struck++;
                    }
                }
            }
            day++;
            for (int r = 0; r < rumours; r++) {
                boolean[] then = new boolean[6];
                for (int t = 0; t < 6; t++) {
                    boolean near = said[r][t] || (t > 0 && said[r][t - 1]) || (t < 5 && said[r][t + 1]);
                    then[t] = near && !denied[r][t] && !(lies[r] && proved(r));
                }
                said[r] = then;
            }
            return struck;
        }

        Scene in(int n) {
            Scene s = copy();
            for (int i = 0; i < n; i++) {
                s.dawnOnce();
            }
            return s;
        }

        boolean sayOnce(int r, int t) {
            if (r < 0 || r >= rumours || t < 0 || t > 5 || proved(r) || said[r][t] || denied[r][t]) {
                return false;
            }
            said[r][t] = true;
            return true;
        }

        boolean denyOnce(int r, int t) {
            if (r < 0 || r >= rumours || t < 0 || t > 5 || (proved(r) && !lies[r]) || denied[r][t]) {
                return false;
            }
            denied[r][t] = true;
            said[r][t] = false;
            return true;
        }

        int tables(boolean[] row) {
            int n = 0;
            for (boolean b : row) {
                n += b ? 1 : 0;
            }
            return n;
        }
    }

    private String text = "";
    private int rumours, people;
    private int[] words = new int[5], days = new int[5], seats = new int[4];
    private boolean[] lies = new boolean[5];
    private Set<String> pairs = new HashSet<>();
    private Scene now = new Scene();
    private final Deque<Scene> row = new ArrayDeque<>();
    private final Scene[] slots = new Scene[2];
    private final List<int[]> heard = new ArrayList<>();
    private long seed;

    private boolean noRumour(int r) {
        return r < 0 || r >= rumours;
    }

    private boolean noPerson(int p) {
        return p < 0 || p >= people;
    }

    private static boolean off(int x, int least, int most) {
        return x < least || x > most;
    }

    private static int bits(boolean[] row) {
        int b = 0;
        for (int i = 0; i < row.length; i++) {
            b |= row[i] ? 1 << i : 0;
        }
        return b;
    }

    // ---- the text: a prefix stands if at most three letters more make a town of it

    /** The parts of a text, or null if it is no town. */
    static List<String> parts(String text) {
        if (!text.startsWith("Y")) {
            return null;
        }
        List<String> parts = new ArrayList<>();
        Set<String> once = new HashSet<>();
        int rumours = 0, people = 0, i = 1;
        while (i < text.length()) {
            char c = text.charAt(i);
            int size = c == 'R' ? 4 : c == 'P' ? 2 : 3;
            if (i + size > text.length()) {
                return null;
            }
            String part = text.substring(i, i + size);
            boolean ok = switch (c) {
                case 'R' -> part.matches("R[1-9][01][0-9]") && ++rumours <= 5;
                case 'P' -> part.matches("P[0-5]") && ++people <= 4;
                case 'X' -> part.matches("X[0-4][0-4]") && part.charAt(1) < part.charAt(2)
                    && part.charAt(2) - '0' < rumours && once.add(part);
                case 'S' -> part.matches("S[0-4][0-5]") && part.charAt(1) - '0' < rumours && once.add(part);
                default -> false;
            };
            if (!ok) {
                return null;
            }
            parts.add(part);
            i += size;
        }
        return parts;
    }

    private static boolean canGoOn(String prefix, int more) {
        if (parts(prefix) != null) {
            return true;
        }
        if (more == 0) {
            return false;
        }
        for (char c = '0'; c <= '9'; c++) {
            if (canGoOn(prefix + c, more - 1)) {
                return true;
            }
        }
        return false;
    }

    static int faultOf(String text) {
        for (int i = 0; i < text.length(); i++) {
            if (!canGoOn(text.substring(0, i + 1), 3)) {
                return i;
            }
        }
        return parts(text) == null ? text.length() : NONE;
    }

    int write(int letter) {
        if (off(letter, 0, 255)) {
            return OUTSIDE;
        }
        if (text.length() == 48) {
            return FULL;
        }
        text += (char) letter;
        return text.length();
    }

    int wipe() {
        int n = text.length();
        text = "";
        return n;
    }

    int fault() {
        return faultOf(text);
    }

    int town() {
        List<String> parts = parts(text);
        if (parts == null) {
            return STATE;
        }
        rumours = 0;
        people = 0;
        pairs = new HashSet<>();
        now = new Scene();
        row.clear();
        Arrays.fill(slots, null);
        for (String part : parts) {
            int a = part.charAt(1) - '0';
            int b = part.length() > 2 ? part.charAt(2) - '0' : 0;
            switch (part.charAt(0)) {
                case 'R':
                    words[rumours] = a;
                    lies[rumours] = b == 1;
                    days[rumours++] = part.charAt(3) - '0';
                    break;
                case 'P':
                    seats[people++] = a;
                    break;
                case 'X':
                    pairs.add(a + "," + b);
                    pairs.add(b + "," + a);
                    break;
                default:
                    now.said[a][b] = true;
            }
        }
        return 10 * rumours + people;
    }

    int rumour(int r, int what) {
        if (noRumour(r)) {
            return UNKNOWN;
        }
        boolean[] rivals = new boolean[5];
        for (int i = 0; i < 5; i++) {
            rivals[i] = pairs.contains(r + "," + i);
        }
        int[] all = {words[r], lies[r] ? 1 : 0, days[r], bits(now.said[r]), bits(now.denied[r]), bits(rivals),
            now.proved(r) ? 1 : 0};
        return off(what, 0, 6) ? OUTSIDE : all[what];
    }

    int table(int p) {
        return noPerson(p) ? UNKNOWN : seats[p];
    }

    int coins(int p, int r) {
        return noPerson(p) || noRumour(r) ? UNKNOWN : now.purse[p][r];
    }

    // ---- acts

    private void act() {
        row.addLast(now.copy());
        if (row.size() > 14) {
            row.removeFirst();
        }
    }

    int dawn() {
        act();
        return now.dawnOnce();
    }

    int say(int r, int t) {
        if (noRumour(r)) {
            return UNKNOWN;
        }
        if (off(t, 0, 5)) {
            return OUTSIDE;
        }
        if (!now.copy().sayOnce(r, t)) {
            return STATE;
        }
        act();
        now.sayOnce(r, t);
        return now.tables(now.said[r]);
    }

    int deny(int r, int t) {
        if (noRumour(r)) {
            return UNKNOWN;
        }
        if (off(t, 0, 5)) {
            return OUTSIDE;
        }
        if (!now.copy().denyOnce(r, t)) {
            return STATE;
        }
        act();
        now.denyOnce(r, t);
        return now.tables(now.said[r]);
    }

    int pay(int p, int q, int r) {
        if (noPerson(p) || noPerson(q) || noRumour(r)) {
            return UNKNOWN;
        }
        if (p == q) {
            return OUTSIDE;
        }
        boolean taken = now.worthOf(r) > 0 && now.purse[q][r] < 99;
        for (int i = 0; i < rumours; i++) {
            taken &= !pairs.contains(r + "," + i) || now.purse[q][i] == 0;
        }
        if (now.purse[p][r] == 0 || !taken) {
            return STATE;
        }
        act();
        now.purse[p][r]--;
        now.purse[q][r]++;
        return now.worthOf(r);
    }

    int undo() {
        if (row.isEmpty()) {
            return STATE;
        }
        now = row.removeLast();
        return row.size();
    }

    // ---- worth

    int worth(int r, int n) {
        return noRumour(r) ? UNKNOWN : off(n, 0, 8) ? OUTSIDE : now.in(n).worthOf(r);
    }

    int purse(int p, int n) {
        return noPerson(p) ? UNKNOWN : off(n, 0, 8) ? OUTSIDE : now.in(n).worthOfPurse(p);
    }

    int bestDay(int p) {
        if (noPerson(p)) {
            return UNKNOWN;
        }
        int best = 8;
        for (int n = 8; n >= 0; n--) {
            best = purse(p, n) >= purse(p, best) ? n : best;
        }
        return best;
    }

    int reach(int r, int t) {
        if (noRumour(r)) {
            return UNKNOWN;
        }
        if (off(t, 0, 5)) {
            return OUTSIDE;
        }
        for (int n = 0; n <= 8; n++) {
            if (now.in(n).said[r][t]) {
                return n;
            }
        }
        return NONE;
    }

    int plan(int p, int n, boolean asRow) {
        if (noPerson(p)) {
            return UNKNOWN;
        }
        if (off(n, 0, 8)) {
            return OUTSIDE;
        }
        // value, things, number
        List<int[]> all = new ArrayList<>();
        all.add(new int[] {now.in(n).worthOfPurse(p), 0, 1});
        for (int a = 0; a < 60; a++) {
            Scene one = now.copy();
            if (one.sayOnce(a / 10, a % 10)) {
                all.add(new int[] {one.in(n).worthOfPurse(p), 1, 100 + a});
                for (int b = 0; b < 60; b++) {
                    Scene two = one.copy();
                    if (two.sayOnce(b / 10, b % 10)) {
                        all.add(new int[] {two.in(n).worthOfPurse(p), 2, 10000 + 100 * a + b});
                    }
                }
            }
        }
        all.sort((x, y) -> x[0] != y[0] ? y[0] - x[0] : x[1] != y[1] ? x[1] - y[1] : x[2] - y[2]);
        return asRow ? all.get(0)[2] : all.get(0)[0];
    }

    int holds(int p, boolean which) {
        if (noPerson(p)) {
            return UNKNOWN;
        }
        // value, rumours, bits
        List<int[]> all = new ArrayList<>();
        for (int set = 0; set < 1 << rumours; set++) {
            int value = 0, size = 0;
            boolean ok = true;
            for (int i = 0; i < rumours; i++) {
                if ((set & 1 << i) != 0) {
                    size++;
                    value += now.purse[p][i] * now.worthOf(i);
                    for (int j = 0; j < i; j++) {
                        ok &= (set & 1 << j) == 0 || !pairs.contains(i + "," + j);
                    }
                }
            }
            if (ok) {
                all.add(new int[] {value, size, set});
            }
        }
        all.sort((x, y) -> x[0] != y[0] ? y[0] - x[0] : x[1] != y[1] ? x[1] - y[1] : x[2] - y[2]);
        return which ? all.get(0)[2] : all.get(0)[0];
    }

    private int worthOfAll(Scene s) {
        int sum = 0;
        for (int r = 0; r < rumours; r++) {
            sum += s.worthOf(r);
        }
        return sum;
    }

    int judge(int n, long things) {
        String figures = Long.toString(things);
        if (off(n, 1, 4) || things < 0 || figures.length() > 3 * n) {
            return OUTSIDE;
        }
        figures = "0".repeat(3 * n - figures.length()) + figures;
        Scene s = now.copy();
        for (int i = 0; i < n; i++) {
            int before = worthOfAll(s);
            int r = figures.charAt(3 * i + 1) - '0', t = figures.charAt(3 * i + 2) - '0';
            boolean done = switch (figures.charAt(3 * i)) {
                case '0' -> s.sayOnce(r, t);
                case '1' -> s.denyOnce(r, t);
                case '2' -> s.dawnOnce() >= 0;
                default -> false;
            };
            if (!done || worthOfAll(s) < before) {
                return i;
            }
        }
        return NONE;
    }

    // ---- heard

    int hear(int r, int t, int n, boolean said) {
        if (noRumour(r)) {
            return UNKNOWN;
        }
        if (off(t, 0, 5) || off(n, 0, 8)) {
            return OUTSIDE;
        }
        if (heard.size() == 6) {
            return FULL;
        }
        heard.add(new int[] {r, t, n, said ? 1 : 0});
        return heard.size();
    }

    int unhear() {
        int n = heard.size();
        heard.clear();
        return n;
    }

    private Scene saidJust(int r, int set) {
        Scene s = now.copy();
        for (int t = 0; t < 6; t++) {
            s.said[r][t] = (set & 1 << t) != 0;
        }
        return s;
    }

    int where(int r, int what) {
        if (noRumour(r)) {
            return UNKNOWN;
        }
        if (off(what, 0, 2)) {
            return OUTSIDE;
        }
        List<Integer> sets = new ArrayList<>();
        for (int set = 0; set < 64; set++) {
            boolean ok = (set & bits(now.denied[r])) == 0;
            for (int[] h : heard) {
                ok &= h[0] != r || saidJust(r, set).in(h[2]).said[r][h[1]] == (h[3] == 1);
            }
            if (ok) {
                sets.add(set);
            }
        }
        if (what == 0) {
            return sets.size();
        }
        int found = 0;
        for (int t = 0; t < 6; t++) {
            int in = 0;
            for (int set : sets) {
                in += set >> t & 1;
            }
            found |= in == (what == 1 ? sets.size() : 0) ? 1 << t : 0;
        }
        return sets.isEmpty() ? NONE : found;
    }

    // ---- shares, rests, chances

    private static int fraction(long above, long below, boolean upper) {
        BigInteger a = BigInteger.valueOf(above), b = BigInteger.valueOf(below);
        BigInteger g = a.gcd(b);
        return (upper ? a : b).divide(g).intValueExact();
    }

    int share(int t, int r, int n, boolean upper) {
        if (noRumour(r)) {
            return UNKNOWN;
        }
        if (off(t, 0, 5) || off(n, 0, 8)) {
            return OUTSIDE;
        }
        long[] sumAndOrders = new long[2];
        if (!now.said[r][t]) {
            return upper ? 0 : 1;
        }
        goThroughOrders(new int[] {t, r, n}, bits(now.said[r]), 0, sumAndOrders);
        return fraction(sumAndOrders[0], sumAndOrders[1], upper);
    }

    /** Every order in which the tables left may come behind those that have come. */
    private void goThroughOrders(int[] asked, int left, int come, long[] sumAndOrders) {
        for (int t = 0; t < 6; t++) {
            if ((left & 1 << t) == 0) {
                continue;
            }
            long[] below = new long[2];
            if ((left & ~(1 << t)) == 0) {
                below[1] = 1;
            } else {
                goThroughOrders(asked, left & ~(1 << t), come | 1 << t, below);
            }
            if (t == asked[0]) {
                int with = saidJust(asked[1], come | 1 << t).in(asked[2]).worthOf(asked[1]);
                int without = saidJust(asked[1], come).in(asked[2]).worthOf(asked[1]);
                below[0] += below[1] * (with - without);
            }
            sumAndOrders[0] += below[0];
            sumAndOrders[1] += below[1];
        }
    }

    private int talk(int p, int a, int q, int b, int n, int whose) {
        Scene s = now.copy();
        s.sayOnce(a - 1, seats[p]);
        s.sayOnce(b - 1, seats[q]);
        return s.in(n).worthOfPurse(whose);
    }

    int rests(int p, int q, int n, int what) {
        if (noPerson(p) || noPerson(q)) {
            return UNKNOWN;
        }
        if (p == q || off(n, 0, 8) || off(what, 0, 1)) {
            return OUTSIDE;
        }
        List<Integer> mine = new ArrayList<>(List.of(0)), theirs = new ArrayList<>(List.of(0));
        for (int r = 0; r < rumours; r++) {
            if (now.copy().sayOnce(r, seats[p])) {
                mine.add(r + 1);
            }
            if (now.copy().sayOnce(r, seats[q])) {
                theirs.add(r + 1);
            }
        }
        List<Integer> rest = new ArrayList<>();
        for (int a : mine) {
            for (int b : theirs) {
                boolean still = true;
                for (int c : mine) {
                    still &= talk(p, c, q, b, n, p) <= talk(p, a, q, b, n, p);
                }
                for (int c : theirs) {
                    still &= talk(p, a, q, c, n, q) <= talk(p, a, q, b, n, q);
                }
                if (still) {
                    rest.add(10 * a + b);
                }
            }
        }
        return what == 0 ? rest.size() : rest.isEmpty() ? NONE : rest.get(0);
    }

    /** Of ten to the number of tables left that many cases in which it is worth w or more. */
    private long casesOf(Scene s, int r, int w, int x, List<Integer> left) {
        if (left.isEmpty()) {
            return s.in(1).worthOf(r) >= w ? 1 : 0;
        }
        List<Integer> rest = left.subList(1, left.size());
        Scene denies = s.copy();
        denies.denyOnce(r, left.get(0));
        return x * casesOf(denies, r, w, x, rest) + (10 - x) * casesOf(s, r, w, x, rest);
    }

    int chance(int r, int w, int x, boolean upper) {
        if (noRumour(r)) {
            return UNKNOWN;
        }
        if (off(w, 0, 20) || off(x, 0, 10)) {
            return OUTSIDE;
        }
        List<Integer> tables = new ArrayList<>();
        long below = 1;
        for (int t = 0; t < 6; t++) {
            if (now.said[r][t]) {
                tables.add(t);
                below *= 10;
            }
        }
        return fraction(casesOf(now, r, w, x, tables), below, upper);
    }

    long seed(long v) {
        long was = seed;
        seed = v;
        return was;
    }

    int weeks(int m) {
        if (off(m, 1, 20)) {
            return OUTSIDE;
        }
        Scene s = now.copy();
        BigInteger x = BigInteger.valueOf(seed);
        BigInteger all = BigInteger.TWO.pow(64);
        for (int i = 0; i < m; i++) {
            x = x.multiply(new BigInteger("6364136223846793005")).add(new BigInteger("1442695040888963407")).mod(all);
            int left = x.divide(BigInteger.TWO.pow(33)).mod(BigInteger.valueOf(60)).intValueExact();
            s.sayOnce(left / 10, left % 10);
            s.dawnOnce();
        }
        seed = x.longValue();
        return worthOfPurses(s);
    }

    private int worthOfPurses(Scene s) {
        int sum = 0;
        for (int p = 0; p < people; p++) {
            sum += s.worthOfPurse(p);
        }
        return sum;
    }

    // ---- slots

    int keep(int slot) {
        if (off(slot, 0, 1)) {
            return UNKNOWN;
        }
        slots[slot] = now.copy();
        return now.day;
    }

    int again(int slot) {
        if (off(slot, 0, 1)) {
            return UNKNOWN;
        }
        if (slots[slot] == null) {
            return STATE;
        }
        now = slots[slot].copy();
        row.clear();
        return now.day;
    }

    int count(int what) {
        int coins = 0, spoken = 0;
        for (int r = 0; r < rumours; r++) {
            spoken |= bits(now.said[r]) != 0 ? 1 << r : 0;
            for (int p = 0; p < people; p++) {
                coins += now.purse[p][r];
            }
        }
        int[] all = {text.length(), rumours, people, now.day, coins, worthOfPurses(now), spoken, row.size(), heard.size()};
        return off(what, 0, 8) ? OUTSIDE : all[what];
    }
}
