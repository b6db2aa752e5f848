import java.math.BigInteger;
import java.util.ArrayList;
import java.util.HashMap;
import java.util.List;
import java.util.Map;
import java.util.TreeSet;
import java.util.regex.Matcher;
import java.util.regex.Pattern;

/**
 * The document once more, in another way than the class: texts by patterns, reaching by trying each
 * step, winding by each order, fractions by counting. It is slow, and may use the whole library.
 */
final class Model {
    private static final Pattern TEXT = Pattern.compile("(?:[A-J](?:[><!][1-9]|[#+-])|\\.)*");
    private static final Pattern ACT = Pattern.compile("[A-J][><!][1-9]|[A-J][#+-]|\\.");

    int[] at = new int[10];
    int[] feels = new int[10];
    int[] wool = new int[9];
    boolean[] fast = new boolean[10];
    int ball = 20;
    int day;
    String pad = "";
    List<int[]> sights = new ArrayList<>();
    final Model[] images = new Model[2];

    // What came of the last text.
    int bad;
    int why;
    List<TreeSet<Integer>> drawnByAct;

    Model() {
        for (int i = 0; i < 10; i++) at[i] = 10 * i;
        for (int i = 0; i < 9; i++) wool[i] = 15;
    }

    private Model copy() {
        Model c = new Model();
        c.takeFrom(this);
        return c;
    }

    private void takeFrom(Model m) {
        at = m.at.clone();
        feels = m.feels.clone();
        wool = m.wool.clone();
        fast = m.fast.clone();
        ball = m.ball;
        day = m.day;
        sights = new ArrayList<>(m.sights);
    }

    private boolean standsWell() {
        for (int i = 0; i < 9; i++) if (Math.abs(at[i] - at[i + 1]) > wool[i]) return false;
        return true;
    }

    int child(int c, int yard, int holds) {
        if (c < 0 || c > 9) return -1;
        if (yard < 0 || yard > 999 || holds < 0 || holds > 1) return -2;
        int before = at[c];
        at[c] = yard;
        if (!standsWell()) {
            at[c] = before;
            return -3;
        }
        fast[c] = holds == 1;
        return before;
    }

    int string(int s, int yards) {
        if (s < 0 || s > 8) return -1;
        if (yards < 1 || yards > 99) return -2;
        int before = wool[s];
        wool[s] = yards;
        if (standsWell()) return before;
        wool[s] = before;
        return -3;
    }

    int ball(int v) {
        if (v < 0 || v > 999) return -2;
        int before = ball;
        ball = v;
        return before;
    }

    int say(int sign) {
        if (sign < 33 || sign > 126) return -2;
        if (pad.length() == 60) return -4;
        pad += (char) sign;
        return pad.length();
    }

    int wipe() {
        int before = pad.length();
        pad = "";
        return before;
    }

    int fault() {
        for (int i = 1; i <= pad.length(); i++) {
            Matcher m = TEXT.matcher(pad.substring(0, i));
            if (!m.matches() && !m.hitEnd()) return i - 1;
            if (!m.matches() && !canGoOn(pad.substring(0, i))) return i - 1;
        }
        return TEXT.matcher(pad).matches() ? -6 : pad.length();
    }

    private static boolean canGoOn(String text) {
        for (String more : new String[] {"", "1", "#"}) if (TEXT.matcher(text + more).matches()) return true;
        return false;
    }

    private boolean isTaut(int s) {
        return Math.abs(at[s] - at[s + 1]) == wool[s];
    }

    private int[] placesAfter(int c, int yard) {
        int[] to = at.clone();
        to[c] = yard;
        for (int i = c + 1; i < 10; i++) to[i] = Math.max(to[i - 1] - wool[i - 1], Math.min(to[i - 1] + wool[i - 1], at[i]));
        for (int i = c - 1; i >= 0; i--) to[i] = Math.max(to[i + 1] - wool[i], Math.min(to[i + 1] + wool[i], at[i]));
        return to;
    }

    /** Why one can not go to a yard. */
    private int whyNotTo(int c, int yard) {
        if (yard < 0 || yard > 999) return 1;
        int[] to = placesAfter(c, yard);
        for (int i = 0; i < 10; i++) if (fast[i] && (i == c || to[i] != at[i])) return 2;
        return 0;
    }

    /** Does an act if it can be, and tells why not. */
    private int act(String act, TreeSet<Integer> drawn) {
        if (act.equals(".")) {
            if (day == 99) return 6;
            day++;
            feels = new int[10];
            return 0;
        }
        int c = act.charAt(0) - 'A';
        int d = act.length() == 3 ? act.charAt(2) - '0' : 0;
        switch (act.charAt(1)) {
            case '>': return go(c, at[c] + d, drawn);
            case '<': return go(c, at[c] - d, drawn);
            case '#': fast[c] = !fast[c]; return 0;
            case '!': squeeze(c, d); return 0;
            case '+': return letOut(c);
            default: return windIn(c);
        }
    }

    private int go(int c, int yard, TreeSet<Integer> drawn) {
        int why = whyNotTo(c, yard);
        if (why != 0) return why;
        int[] to = placesAfter(c, yard);
        for (int i = 0; i < 10; i++) if (i != c && to[i] != at[i]) drawn.add(i);
        at = to;
        return 0;
    }

    private void squeeze(int c, int d) {
        for (int other = 0; other < 10; other++) {
            int left = d;
            for (int s = Math.min(c, other); s < Math.max(c, other); s++) left -= isTaut(s) ? 1 : 3;
            if (other != c && left > 0) feels[other] = Math.min(99, feels[other] + left);
        }
    }

    private int letOut(int c) {
        if (c == 9) return 3;
        if (ball == 0) return 4;
        if (wool[c] == 99) return 5;
        wool[c]++;
        ball--;
        return 0;
    }

    private int windIn(int c) {
        if (c == 9) return 3;
        if (isTaut(c) || wool[c] == 1) return 5;
        wool[c]--;
        if (ball < 999) ball++;
        return 0;
    }

    /** The model behind the text, as far as its acts can be. */
    private Model behindText() {
        Model m = copy();
        m.bad = -6;
        m.why = -6;
        m.drawnByAct = new ArrayList<>();
        Matcher acts = ACT.matcher(pad);
        while (m.bad == -6 && acts.find()) {
            TreeSet<Integer> drawn = new TreeSet<>();
            int why = m.act(acts.group(), drawn);
            if (why != 0) {
                m.bad = m.drawnByAct.size();
                m.why = why;
            } else {
                m.drawnByAct.add(drawn);
            }
        }
        return m;
    }

    private int drawnCount() {
        int sum = 0;
        for (TreeSet<Integer> drawn : drawnByAct) sum += drawn.size();
        return sum;
    }

    private int refusal() {
        if (fault() != -6) return -5;
        return behindText().bad != -6 ? -3 : 0;
    }

    int judge(int what) {
        if (what < 0 || what > 2) return -2;
        if (fault() != -6) return -5;
        Model m = behindText();
        if (what == 0) return m.bad;
        if (what == 1) return m.why;
        return m.bad != -6 ? -3 : m.drawnCount();
    }

    int behind(int c, int what) {
        if (c < 0 || c > 9) return -1;
        if (what < 0 || what > 2) return -2;
        if (refusal() != 0) return refusal();
        Model m = behindText();
        return what == 0 ? m.at[c] : what == 1 ? m.feels[c] : m.fast[c] ? 1 : 0;
    }

    int line(int what) {
        if (what < 0 || what > 3) return -2;
        if (refusal() != 0) return refusal();
        Model m = behindText();
        if (what == 1) return m.ball;
        if (what == 3) return m.day;
        int sum = 0;
        for (int i = 0; i < 9; i++) sum += what == 2 ? m.wool[i] : m.isTaut(i) ? 1 << i : 0;
        return sum;
    }

    int drawn(int what) {
        if (what < 0 || what > 1) return -2;
        if (refusal() != 0) return refusal();
        List<TreeSet<Integer>> drawn = behindText().drawnByAct;
        for (int i = 0; i < drawn.size(); i++) {
            if (!drawn.get(i).isEmpty()) return what == 0 ? i : drawn.get(i).first();
        }
        return -6;
    }

    int done() {
        if (refusal() != 0) return refusal();
        Model m = behindText();
        takeFrom(m);
        pad = "";
        return m.drawnByAct.size();
    }

    int reach(int c, int what) {
        if (c < 0 || c > 9) return -1;
        if (what < 0 || what > 1) return -2;
        int most = 0;
        for (int d = 1; d <= 999; d++) if (whyNotTo(c, what == 0 ? at[c] + d : at[c] - d) == 0) most = d;
        return most;
    }

    int wind(int row, int n, int what) {
        if (n < 1 || n > 9 || row < 0 || row >= Math.pow(10, n) || what < 0 || what > 1) return -2;
        List<Integer> balls = new ArrayList<>();
        for (char sign : String.format("%0" + n + "d", row).toCharArray()) balls.add(sign - '0');
        return windAll(balls, what, new HashMap<>());
    }

    private static int windAll(List<Integer> balls, int what, Map<List<Integer>, Integer> known) {
        if (balls.size() == 1) return 0;
        if (known.containsKey(balls)) return known.get(balls);
        int best = -1;
        for (int i = 0; i + 1 < balls.size(); i++) {
            List<Integer> next = new ArrayList<>(balls);
            int size = next.remove(i) + next.get(i);
            next.set(i, size);
            int time = size + windAll(next, what, known);
            if (best < 0 || (what == 0 ? time < best : time > best)) best = time;
        }
        known.put(balls, best);
        return best;
    }

    int read(int a, int b, int c, int d, int row, int what) {
        TreeSet<String> words = new TreeSet<>();
        for (int w : new int[] {a, b, c, d}) {
            if (w < 1 || w > 999) return -2;
            words.add(Integer.toString(w));
        }
        if (row < 0 || row > 999999999 || what < 0 || what > 1) return -2;
        List<Integer> readings = new ArrayList<>();
        readAll(Integer.toString(row), words, 0, readings);
        if (what == 0) return readings.size();
        int fewest = -6;
        for (int many : readings) if (fewest == -6 || many < fewest) fewest = many;
        return fewest;
    }

    private static void readAll(String row, TreeSet<String> words, int before, List<Integer> readings) {
        if (row.isEmpty()) readings.add(before);
        for (String w : words) if (row.startsWith(w)) readAll(row.substring(w.length()), words, before + 1, readings);
    }

    int felt(int c, int v) {
        if (c < 0 || c > 9) return -1;
        if (v < 0 || v > 9) return -2;
        if (sights.size() == 8) return -4;
        sights.add(new int[] {c, v});
        return sights.size();
    }

    int forget() {
        int before = sights.size();
        sights.clear();
        return before;
    }

    private static int felt(int[] guess, int c) {
        int left = guess[1];
        for (int i = Math.min(c, guess[0]); i < Math.max(c, guess[0]); i++) left -= guess[2];
        return left < 0 ? 0 : left;
    }

    private List<int[]> fitting() {
        List<int[]> all = new ArrayList<>();
        for (int c = 0; c < 10; c++) {
            for (int d = 1; d < 10; d++) {
                for (int k = 1; k < 4; k++) {
                    int[] guess = {c, d, k};
                    boolean fits = true;
                    for (int[] sight : sights) fits &= felt(guess, sight[0]) == sight[1];
                    if (fits) all.add(guess);
                }
            }
        }
        return all;
    }

    int fits(int i) {
        List<int[]> all = fitting();
        if (i == -1) return all.size();
        if (i < 0 || i >= all.size()) return -6;
        return 100 * all.get(i)[0] + 10 * all.get(i)[1] + all.get(i)[2];
    }

    int ask(int what) {
        if (what < 0 || what > 1) return -2;
        List<int[]> all = fitting();
        if (all.isEmpty()) return -6;
        int best = -1;
        int bestMost = 1000;
        for (int c = 0; c < 10; c++) {
            Map<Integer, Integer> parts = new HashMap<>();
            for (int[] guess : all) parts.merge(felt(guess, c), 1, Integer::sum);
            int most = 0;
            for (int many : parts.values()) most = Math.max(most, many);
            if (most < bestMost) {
                bestMost = most;
                best = c;
            }
        }
        return what == 0 ? best : bestMost;
    }

    int pull(int n, int k, int just, int what) {
        if (n < 0 || n > 99 || k < 1 || k > 9 || just < 0 || just > 9 || what < 0 || what > 1) return -2;
        boolean[][] wins = new boolean[n + 1][10];
        int first = -6;
        for (int left = 0; left <= n; left++) {
            for (int before = 0; before < 10; before++) {
                for (int m = Math.min(k, left); m >= 1; m--) {
                    if (m == before || wins[left - m][m]) continue;
                    wins[left][before] = true;
                    if (left == n && before == just) first = m;
                }
            }
        }
        return what == 1 ? first : wins[n][just] ? 1 : 0;
    }

    long passed(int n, int t, int what, int part) {
        if (n < 0 || n > 16 || t < 0 || t > 10 || what < 0 || what > 1 || part < 0 || part > 1) return -1000000000000000002L;
        // Of ten to the n ways, each with so many who turn it about.
        BigInteger upper = BigInteger.ZERO;
        BigInteger lower = BigInteger.TEN.pow(n);
        BigInteger choose = BigInteger.ONE;
        for (int turns = 0; turns <= n; turns++) {
            BigInteger ways = choose.multiply(BigInteger.valueOf(t).pow(turns)).multiply(BigInteger.valueOf(10 - t).pow(n - turns));
            if (what == 0 && turns % 2 == 0) upper = upper.add(ways);
            if (what == 1) upper = upper.add(ways.multiply(BigInteger.valueOf(turns)));
            choose = choose.multiply(BigInteger.valueOf(n - turns)).divide(BigInteger.valueOf(turns + 1));
        }
        BigInteger common = upper.gcd(lower);
        return (part == 0 ? upper : lower).divide(common).longValueExact();
    }

    int year(int seed, int m, int what) {
        if (seed < 0 || seed > 9999 || m < 1 || m > 99 || what < 0 || what > 2) return -2;
        Model y = copy();
        y.drawnByAct = new ArrayList<>();
        long x = seed;
        String[] kinds = {">", ">", "<", "#", "!", "+", "-", "."};
        for (int i = 0; i < m; i++) {
            x = (75 * x + 74) % 65537;
            String kind = kinds[(int) (x / 10 % 8)];
            String act = (char) ('A' + x % 10) + kind;
            if (kind.equals(".")) act = kind;
            if ("><!".contains(kind)) act += x / 80 % 9 + 1;
            TreeSet<Integer> drawn = new TreeSet<>();
            if (y.act(act, drawn) == 0) y.drawnByAct.add(drawn);
        }
        return what == 0 ? y.at[0] : what == 1 ? y.drawnCount() : y.ball;
    }

    int image(int k) {
        if (k < 0 || k > 1) return -2;
        images[k] = copy();
        return 1;
    }

    int restore(int k) {
        if (k < 0 || k > 1) return -2;
        if (images[k] == null) return -3;
        takeFrom(images[k]);
        return 1;
    }

    int told(int what) {
        if (what == 0) return pad.length();
        if (what == 2) return ball;
        if (what == 3) return day;
        if (what == 4) return sights.size();
        if (what >= 10 && what <= 19) return at[what - 10];
        if (what >= 20 && what <= 29) return feels[what - 20];
        if (what >= 30 && what <= 38) return wool[what - 30];
        if (what != 1) return -2;
        int bits = 0;
        for (int i = 0; i < 10; i++) bits += fast[i] ? 1 << i : 0;
        return bits;
    }
}
