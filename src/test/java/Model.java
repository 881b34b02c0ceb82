import java.util.ArrayList;
import java.util.Arrays;
import java.util.List;
import java.util.Map;
import java.util.regex.Matcher;
import java.util.regex.Pattern;

/**
 * The document once more, by brute force and with the whole Java library: every plan, every row of
 * cells and every sharing of coats is tried as a night of its own. It only serves to be compared with.
 */
final class Model {
    static final int NONE = -1, BAD = -100000, NO = -200000, FULL = -300000;
    static final int[][] RANGES = {{2, 8}, {0, 7}, {0, 7}, {1, 24}, {0, 200}, {0, 60}, {0, 200}, {0, 200},
        {0, 9}, {0, 7}, {0, 9}};

    /** One of PEOPLE. */
    record Man(int cell, int gives, int bears, int longest, int wet, boolean coat) {
        Man dressed(boolean is) {
            return new Man(cell, gives, bears, longest, wet, is);
        }
    }

    record Break(int quarter, int cell, int loss) { }

    /** All that an IMAGE keeps. */
    static final class Told {
        int[] numbers = {4, 0, 3, 8, 80, 8, 60, 40, 2, 1, 1};
        int[] warmth = new int[8], loss = new int[8], seats = new int[8], pass = new int[7];
        boolean[] hung = new boolean[7], opened = new boolean[24];
        int[] cold = new int[24], help = new int[24], plan = new int[24];
        List<Man> people = new ArrayList<>();
        List<Break> breaks = new ArrayList<>();

        Told() {
            Arrays.fill(loss, 10);
            Arrays.fill(seats, 8);
            Arrays.fill(pass, 20);
            Arrays.fill(cold, -100);
        }

        Told copy() {
            Told t = new Told();
            t.numbers = numbers.clone();
            t.warmth = warmth.clone();
            t.loss = loss.clone();
            t.seats = seats.clone();
            t.pass = pass.clone();
            t.hung = hung.clone();
            t.opened = opened.clone();
            t.cold = cold.clone();
            t.help = help.clone();
            t.plan = plan.clone();
            t.people = new ArrayList<>(people);
            t.breaks = new ArrayList<>(breaks);
            return t;
        }
    }

    /** What came of one night. */
    static final class Outcome {
        int[][] warmth, feels;
        int[] burnt, fuel;
        int worst = 1000, falls = 99, who = NONE;
    }

    Told t = new Told();
    final Told[] images = new Told[2];
    String text = "";
    long above = 0, below = 1;

    private static boolean out(int v, int least, int most) {
        return v < least || v > most;
    }

    // ---- a carriage

    int put(int what, int v) {
        if (out(what, 0, 10) || out(v, RANGES[what][0], RANGES[what][1])) return BAD;
        int was = t.numbers[what];
        t.numbers[what] = v;
        return was;
    }

    int cell(int cell, int warmth, int loss, int seats) {
        if (out(cell, 0, 7) || out(warmth, -300, 300) || out(loss, 0, 50) || out(seats, 0, 8)) return BAD;
        t.warmth[cell] = warmth;
        t.loss[cell] = loss;
        t.seats[cell] = seats;
        return 1;
    }

    int pass(int cell, int v) {
        if (out(cell, 0, 6) || out(v, 0, 40)) return BAD;
        int was = t.pass[cell];
        t.pass[cell] = v;
        return was;
    }

    int hang(int cell, boolean is) {
        if (out(cell, 0, 6)) return BAD;
        if (t.hung[cell] == is) return NO;
        t.hung[cell] = is;
        return 1;
    }

    int cold(int quarter, int n, int v) {
        if (out(quarter, 0, 23) || out(n, 1, 24) || out(v, -400, 200)) return BAD;
        int there = 0;
        for (int q = 0; q < 24; q++) {
            if (q >= quarter && q - quarter < n) {
                t.cold[q] = v;
                there++;
            }
        }
        return there;
    }

    int help(int quarter, int weight) {
        if (out(quarter, 0, 23) || out(weight, 0, 9)) return BAD;
        int was = t.help[quarter];
        t.help[quarter] = weight;
        return was;
    }

    int man(int cell, int gives, int bears, int longest, int wet) {
        if (out(cell, 0, 7) || out(gives, 0, 20) || out(bears, -300, 300) || out(longest, 0, 9) || out(wet, 0, 100)) {
            return BAD;
        }
        if (t.people.size() == 8) return FULL;
        t.people.add(new Man(cell, gives, bears, longest, wet, false));
        return t.people.size() - 1;
    }

    int coat(int man, boolean is) {
        if (out(man, 0, t.people.size() - 1)) return BAD;
        if (t.people.get(man).coat() == is) return NO;
        t.people.set(man, t.people.get(man).dressed(is));
        return 1;
    }

    int broken(int quarter, int cell, int loss) {
        if (out(quarter, 0, 23) || out(cell, 0, 7) || out(loss, 0, 50)) return BAD;
        if (t.breaks.size() == 4) return FULL;
        t.breaks.add(new Break(quarter, cell, loss));
        return t.breaks.size() - 1;
    }

    int open(int quarter, boolean is) {
        if (out(quarter, 0, 23)) return BAD;
        if (t.opened[quarter] == is) return NO;
        t.opened[quarter] = is;
        return 1;
    }

    int plan(int quarter, int pieces) {
        if (out(quarter, 0, 23) || out(pieces, 0, 2)) return BAD;
        int was = t.plan[quarter];
        t.plan[quarter] = pieces;
        return was;
    }

    int type(long v, int n) {
        if (out(n, 1, 8)) return BAD;
        if (text.length() + n > 300) return FULL;
        String more = "";
        for (int i = 0; i < n; i++) {
            more = (char) (v & 0xff) + more;
            v >>>= 8;
        }
        text += more;
        return text.length();
    }

    int clear() {
        int had = text.length();
        text = "";
        return had;
    }

    private static final Map<String, Integer> WORDS = Map.of("put", 2, "cell", 4, "pass", 2, "hang", 1, "cold", 3,
        "help", 2, "man", 5, "coat", 1, "break", 3, "open", 1);
    private static final Pattern TOKEN = Pattern.compile("([a-z]+)|(?<![0-9])(-?[0-9]{1,3})(?![0-9])|(;)");

    int carriage() {
        List<List<String>> items = new ArrayList<>();
        List<String> item = new ArrayList<>();
        Matcher m = TOKEN.matcher(text);
        int at = 0;
        while (true) {
            while (at < text.length() && text.charAt(at) == ' ') at++;
            if (at == text.length()) break;
            m.region(at, text.length()).useTransparentBounds(true);
            if (!m.lookingAt() || !mayFollow(item, m)) return -10 - at;
            if (m.group(3) != null) {
                items.add(item);
                item = new ArrayList<>();
            } else {
                item.add(m.group());
            }
            at = m.end();
        }
        if (!item.isEmpty()) return -10 - text.length();
        Told before = t;
        t = new Told();
        for (int i = 0; i < items.size(); i++) {
            if (tell(items.get(i)) < 0) {
                t = before;
                return -1000 - i;
            }
        }
        return items.size();
    }

    private static boolean mayFollow(List<String> item, Matcher m) {
        if (item.isEmpty()) return m.group(1) != null && WORDS.containsKey(m.group(1));
        boolean whole = item.size() == 1 + WORDS.get(item.get(0));
        return whole ? m.group(3) != null : m.group(2) != null;
    }

    private int tell(List<String> item) {
        int[] v = item.stream().skip(1).mapToInt(Integer::parseInt).toArray();
        switch (item.get(0)) {
            case "put": return put(v[0], v[1]);
            case "cell": return cell(v[0], v[1], v[2], v[3]);
            case "pass": return pass(v[0], v[1]);
            case "hang": return hang(v[0], true);
            case "cold": return cold(v[0], v[1], v[2]);
            case "help": return help(v[0], v[1]);
            case "man": return man(v[0], v[1], v[2], v[3], v[4]);
            case "coat": return coat(v[0], true);
            case "break": return broken(v[0], v[1], v[2]);
            case "open": return open(v[0], true);
            default: throw new IllegalStateException(item.get(0));
        }
    }

    // ---- nights

    private int last(int cell) {
        return cell < t.numbers[0] ? cell : t.numbers[0] - 1;
    }

    private int quarters() {
        return t.numbers[3];
    }

    private int wanted(int kind, int n, int q, int[] plan) {
        boolean firstHalf = 2 * q < quarters();
        boolean lastHalf = 2 * (quarters() - 1 - q) < quarters();
        switch (kind) {
            case 1: return firstHalf ? 2 * n : 0;
            case 2: return lastHalf ? 2 * n : 0;
            case 5: return plan[q];
            default: return n;
        }
    }

    private int sits(int kind, int q, int cell) {
        int own = last(cell);
        if (kind == 4) {
            for (int i = 0; i < q; i++) own = own + 1 == t.numbers[0] ? 0 : own + 1;
        }
        if (kind == 3) {
            int found = NONE;
            for (int c = 0; c < t.numbers[0]; c++) {
                boolean near = Math.abs(c - last(t.numbers[1])) <= t.numbers[9];
                if (near && (found == NONE || Math.abs(c - own) < Math.abs(found - own))) found = c;
            }
            own = found;
        }
        return own;
    }

    private int passes(int kind, int c) {
        boolean hung = t.hung[c];
        if (kind == 3) {
            int stove = last(t.numbers[1]);
            int edge = t.numbers[9];
            hung |= c == stove + edge || c + 1 == stove - edge;
        }
        return hung ? t.pass[c] / 4 : t.pass[c];
    }

    private int loses(int q, int c) {
        int loss = t.loss[c];
        for (Break b : t.breaks) {
            if (b.cell() == c && q >= b.quarter()) loss = b.loss();
        }
        return loss;
    }

    private Outcome night(int kind, int n, int[] plan) {
        Outcome o = new Outcome();
        int cells = t.numbers[0];
        o.warmth = new int[quarters()][];
        o.feels = new int[quarters()][t.people.size()];
        o.burnt = new int[quarters()];
        o.fuel = new int[quarters()];
        int fuel = t.numbers[5];
        int[] w = Arrays.copyOf(t.warmth, cells);
        for (int q = 0; q < quarters(); q++) {
            int pieces = Math.min(wanted(kind, n, q, plan), fuel);
            w[last(t.numbers[1])] += pieces * t.numbers[4];
            fuel -= pieces;
            if (t.opened[q]) {
                w[last(t.numbers[2])] -= t.numbers[7];
                fuel += t.numbers[8];
            }
            int[] x = w.clone();
            for (int c = 1; c < cells; c++) {
                int flow = (w[c - 1] - w[c]) * passes(kind, c - 1) / 100;
                x[c - 1] -= flow;
                x[c] += flow;
            }
            for (Man m : t.people) x[sits(kind, q, m.cell())] += m.gives();
            for (int c = 0; c < cells; c++) x[c] -= (x[c] - t.cold[q]) * loses(q, c) / 100;
            for (int i = 0; i < t.people.size(); i++) {
                Man m = t.people.get(i);
                o.feels[q][i] = x[sits(kind, q, m.cell())] + (m.coat() ? t.numbers[6] : 0) - m.wet();
            }
            o.warmth[q] = x;
            o.burnt[q] = pieces;
            o.fuel[q] = fuel;
            w = x.clone();
        }
        judge(o);
        return o;
    }

    private void judge(Outcome o) {
        if (!t.people.isEmpty()) o.worst = 1 << 29;
        for (int i = 0; i < t.people.size(); i++) {
            Man m = t.people.get(i);
            int below = 0;
            for (int q = 0; q < quarters(); q++) {
                int margin = o.feels[q][i] - m.bears();
                o.worst = Math.min(o.worst, margin);
                below = margin < 0 ? below + 1 : 0;
                if (below > m.longest() && q < o.falls) {
                    o.falls = q;
                    o.who = i;
                }
            }
        }
    }

    private Outcome night(int kind, int n) {
        return night(kind, n, t.plan);
    }

    private static boolean badRule(int kind, int n) {
        return out(kind, 0, 5) || out(n, 0, 9);
    }

    private boolean badQuarter(int q) {
        return out(q, 0, quarters() - 1);
    }

    int warmth(int kind, int n, int quarter, int cell) {
        if (badRule(kind, n) || badQuarter(quarter) || out(cell, 0, t.numbers[0] - 1)) return BAD;
        return night(kind, n).warmth[quarter][cell];
    }

    int feels(int kind, int n, int quarter, int man) {
        if (badRule(kind, n) || badQuarter(quarter) || out(man, 0, t.people.size() - 1)) return BAD;
        return night(kind, n).feels[quarter][man];
    }

    int fuel(int kind, int n, int quarter, int what) {
        if (badRule(kind, n) || badQuarter(quarter) || out(what, 0, 1)) return BAD;
        Outcome o = night(kind, n);
        return what == 0 ? o.burnt[quarter] : o.fuel[quarter];
    }

    int worst(int kind, int n) {
        return badRule(kind, n) ? BAD : night(kind, n).worst;
    }

    int falls(int kind, int n, int what) {
        if (badRule(kind, n) || out(what, 0, 1)) return BAD;
        Outcome o = night(kind, n);
        if (o.falls == 99) return NONE;
        return what == 0 ? o.falls : o.who;
    }

    int fair(int kind, int n) {
        if (badRule(kind, n)) return BAD;
        Outcome o = night(kind, n);
        List<Integer> leasts = new ArrayList<>();
        for (int i = 0; i < t.people.size(); i++) {
            int man = i;
            leasts.add(Arrays.stream(o.feels).mapToInt(row -> row[man]).min().getAsInt());
        }
        if (leasts.isEmpty()) return 0;
        return leasts.stream().mapToInt(v -> v).max().getAsInt() - leasts.stream().mapToInt(v -> v).min().getAsInt();
    }

    // ---- what is best

    private int[] bestPlan() {
        int all = 1;
        for (int q = 0; q < quarters(); q++) all *= 3;
        int[] best = null;
        Outcome of = null;
        for (int number = 0; number < all; number++) {
            int[] plan = new int[24];
            int rest = number;
            for (int q = quarters() - 1; q >= 0; q--) {
                plan[q] = rest % 3;
                rest /= 3;
            }
            Outcome o = night(5, 0, plan);
            if (!Arrays.equals(o.burnt, Arrays.copyOf(plan, quarters()))) continue;
            if (best == null || o.falls > of.falls || o.falls == of.falls && (o.worst > of.worst
                    || o.worst == of.worst && Arrays.stream(plan).sum() < Arrays.stream(best).sum())) {
                best = plan;
                of = o;
            }
        }
        return best;
    }

    int best(int quarter) {
        if (quarter != NONE && badQuarter(quarter)) return BAD;
        if (quarters() > 8) return NO;
        int[] plan = bestPlan();
        return quarter == NONE ? night(5, 0, plan).worst : plan[quarter];
    }

    int take() {
        if (quarters() > 8) return NO;
        t.plan = bestPlan();
        return 1;
    }

    private int sitLeast;
    private int[] sitRow;

    private void trySeats(Outcome o, int man, int[] row, int[] free, int least) {
        if (sitRow != null && least <= sitLeast) return;
        if (man == row.length) {
            sitLeast = least;
            sitRow = row.clone();
            return;
        }
        Man m = t.people.get(man);
        for (int c = 0; c < t.numbers[0]; c++) {
            if (free[c] == 0) continue;
            int margin = 1 << 29;
            for (int q = 0; q < quarters(); q++) {
                margin = Math.min(margin, o.warmth[q][c] + (m.coat() ? t.numbers[6] : 0) - m.wet() - m.bears());
            }
            free[c]--;
            row[man] = c;
            trySeats(o, man + 1, row, free, Math.min(least, margin));
            free[c]++;
        }
    }

    int sit(int kind, int n, int man) {
        if (badRule(kind, n) || man != NONE && out(man, 0, t.people.size() - 1)) return BAD;
        if (Arrays.stream(t.seats, 0, t.numbers[0]).sum() < t.people.size()) return NO;
        if (t.people.isEmpty()) return 1000;
        sitRow = null;
        trySeats(night(kind, n), 0, new int[t.people.size()], t.seats.clone(), 1 << 29);
        return man == NONE ? sitLeast : sitRow[man];
    }

    private Outcome nightIn(int kind, int n, int coats) {
        List<Man> told = t.people;
        t.people = new ArrayList<>();
        for (Man m : told) t.people.add(m.dressed((coats >> t.people.size() & 1) == 1));
        Outcome o = night(kind, n);
        t.people = told;
        return o;
    }

    private int bestCoats(int kind, int n, int k) {
        int best = NONE;
        Outcome of = null;
        for (int bits = 0; bits < 1 << t.people.size(); bits++) {
            if (Integer.bitCount(bits) != k) continue;
            Outcome o = nightIn(kind, n, bits);
            if (of == null || o.falls > of.falls || o.falls == of.falls && o.worst > of.worst) {
                best = bits;
                of = o;
            }
        }
        return best;
    }

    int coats(int kind, int n, int k) {
        if (badRule(kind, n) || out(k, 0, t.people.size())) return BAD;
        return bestCoats(kind, n, k);
    }

    int fewest(int kind, int n) {
        if (badRule(kind, n)) return BAD;
        for (int k = 0; k <= t.people.size(); k++) {
            if (nightIn(kind, n, bestCoats(kind, n, k)).falls == 99) return k;
        }
        return NONE;
    }

    private long[] chance(int kind, int n) {
        int falls = night(kind, n).falls;
        long all = t.numbers[10];
        long good = falls == 99 ? t.numbers[10] : 0;
        for (int q = 0; q < quarters(); q++) {
            all += t.help[q];
            if (falls > q) good += t.help[q];
        }
        return new long[] {good, all};
    }

    int saved(int kind, int n) {
        if (badRule(kind, n)) return BAD;
        long[] chance = chance(kind, n);
        if (chance[1] == 0) return NO;
        for (long d = 1; d <= chance[1]; d++) {
            if (chance[0] % d == 0 && chance[1] % d == 0) {
                above = chance[0] / d;
                below = chance[1] / d;
            }
        }
        return 1;
    }

    int keep(int kind) {
        if (out(kind, 0, 4)) return BAD;
        if (chance(kind, 0)[1] == 0) return NO;
        int best = 0;
        for (int n = 1; n <= 9; n++) {
            if (chance(kind, n)[0] > chance(kind, best)[0]) best = n;
        }
        return best;
    }

    int worth(int kind, int n, int quarter) {
        if (badRule(kind, n) || badQuarter(quarter)) return BAD;
        int asItIs = night(kind, n).worst;
        t.opened[quarter] = !t.opened[quarter];
        int so = night(kind, n).worst;
        t.opened[quarter] = !t.opened[quarter];
        return so - asItIs;
    }

    int when(int kind, int n) {
        if (badRule(kind, n)) return BAD;
        int best = 0;
        for (int q = 0; q < quarters(); q++) {
            if (worth(kind, n, q) > worth(kind, n, best)) best = q;
        }
        return best;
    }

    // ---- what there is

    long part(int what) {
        return what == 0 ? above : what == 1 ? below : BAD;
    }

    int image(int i) {
        if (out(i, 0, 1)) return BAD;
        images[i] = t.copy();
        return 1;
    }

    int from(int i) {
        if (out(i, 0, 1)) return BAD;
        if (images[i] == null) return NO;
        t = images[i].copy();
        return 1;
    }

    int count(int what) {
        switch (what) {
            case 0: return t.people.size();
            case 1: return (int) t.people.stream().filter(Man::coat).count();
            case 2: return t.breaks.size();
            case 3: return text.length();
            default: return BAD;
        }
    }

    long digest() {
        List<Long> v = new ArrayList<>();
        for (int i = 0; i < 4; i++) v.add((long) count(i));
        for (int number : t.numbers) v.add((long) number);
        for (int c = 0; c < 8; c++) {
            v.addAll(List.of((long) t.warmth[c], (long) t.loss[c], (long) t.seats[c]));
            v.addAll(c == 7 ? List.of(0L, 0L) : List.of((long) t.pass[c], t.hung[c] ? 1L : 0L));
        }
        for (int q = 0; q < 24; q++) {
            v.addAll(List.of((long) t.cold[q], (long) t.help[q], (long) t.plan[q], t.opened[q] ? 1L : 0L));
        }
        for (Man m : t.people) {
            v.addAll(List.of((long) m.cell(), (long) m.gives(), (long) m.bears(), (long) m.longest(), (long) m.wet(),
                m.coat() ? 1L : 0L));
        }
        for (Break b : t.breaks) v.addAll(List.of((long) b.quarter(), (long) b.cell(), (long) b.loss()));
        v.add(above);
        v.add(below);
        long h = 547;
        for (long x : v) h = 31 * h + x;
        return h;
    }
}
