import java.math.BigInteger;
import java.util.ArrayDeque;
import java.util.ArrayList;
import java.util.Collections;
import java.util.Deque;
import java.util.HashMap;
import java.util.List;
import java.util.Map;
import java.util.TreeMap;
import java.util.regex.Matcher;
import java.util.regex.Pattern;

/** The document said a second time, as plainly as the Java library lets one, to test the class against. */
final class Model {
    static final int UNKNOWN = -1, OUTSIDE = -2, STATE = -3, FULL = -4, NONE = -9;

    record Blanket(int number, int from, int to, int century, int kind) {
        boolean on(int cell) {
            return cell >= from && cell <= to;
        }
    }

    record Bed(List<Integer> stack, List<Integer> at, List<Integer> woken, int night) {
        Bed withStack(List<Integer> other) {
            return new Bed(other, at, woken, night);
        }
    }

    private String text = "";
    private final List<Blanket> blankets = new ArrayList<>();
    private final List<Integer> wide = new ArrayList<>();
    private Bed bed = new Bed(List.of(), List.of(), List.of(), 0);
    private final Deque<Bed> past = new ArrayDeque<>();
    private final List<int[]> seen = new ArrayList<>();
    private final Map<Integer, Bed> slots = new HashMap<>();
    private long seed;

    // ---- the text

    private static boolean isBed(String s) {
        if (!s.matches("B(Q[0-5][0-5][0-9][0-3]|S[0-5][1-3])*")) {
            return false;
        }
        Matcher q = Pattern.compile("Q(.)(.)..").matcher(s);
        int many = 0;
        while (q.find()) {
            many++;
            if (q.group(1).compareTo(q.group(2)) > 0) {
                return false;
            }
        }
        boolean[] slept = new boolean[6];
        Matcher p = Pattern.compile("S(.)(.)").matcher(s);
        int sleepers = 0;
        while (p.find()) {
            sleepers++;
            int from = Integer.parseInt(p.group(1));
            for (int c = from; c < from + Integer.parseInt(p.group(2)); c++) {
                if (c > 5 || slept[c]) {
                    return false;
                }
                slept[c] = true;
            }
        }
        return many <= 6 && sleepers <= 3;
    }

    // If any ending makes a bed of it, one of these does.
    private static boolean canBecomeBed(String s) {
        String[] endings = {"", "B", "0000", "5000", "500", "00", "0", "1", "01", "11", "21", "31", "41", "51"};
        for (String ending : endings) {
            if (isBed(s + ending)) {
                return true;
            }
        }
        return false;
    }

    int write(int letter) {
        if (letter < 0 || letter > 255) {
            return OUTSIDE;
        }
        if (text.length() == 44) {
            return FULL;
        }
        text += (char) letter;
        return text.length();
    }

    int wipe() {
        int was = text.length();
        text = "";
        return was;
    }

    int fault() {
        for (int i = 0; i < text.length(); i++) {
            if (!canBecomeBed(text.substring(0, i + 1))) {
                return i;
            }
        }
        return isBed(text) ? NONE : text.length();
    }

    int bed() {
        if (!isBed(text)) {
            return STATE;
        }
        blankets.clear();
        wide.clear();
        List<Integer> stack = new ArrayList<>();
        List<Integer> at = new ArrayList<>();
        List<Integer> woken = new ArrayList<>();
        Matcher m = Pattern.compile("Q(.)(.)(.)(.)|S(.)(.)").matcher(text);
        while (m.find()) {
            if (m.group(1) != null) {
                stack.add(blankets.size());
                blankets.add(new Blanket(blankets.size(), Integer.parseInt(m.group(1)),
                        Integer.parseInt(m.group(2)), Integer.parseInt(m.group(3)), Integer.parseInt(m.group(4))));
            } else {
                at.add(Integer.parseInt(m.group(5)));
                wide.add(Integer.parseInt(m.group(6)));
                woken.add(0);
            }
        }
        bed = new Bed(stack, at, woken, 0);
        past.clear();
        slots.clear();
        return blankets.size() * 10 + wide.size();
    }

    // ---- times

    private int time(List<Integer> stack, int cell) {
        List<Blanket> there = new ArrayList<>();
        for (int b : stack) {
            if (blankets.get(b).on(cell)) {
                there.add(blankets.get(b));
            }
        }
        for (Blanket b : there) {
            boolean counts = switch (b.kind()) {
                case 1 -> there.size() == 1;
                case 3 -> cell == 0 || cell == 2 || cell == 4;
                default -> true;
            };
            if (counts) {
                int c = b.kind() == 2 ? b.century() + cell : b.century();
                return c >= 10 ? c - 10 : c;
            }
        }
        return 10;
    }

    private int wakesAt(List<Integer> stack, int from, int w) {
        List<Integer> times = new ArrayList<>();
        for (int c = from; c < from + w; c++) {
            times.add(time(stack, c));
        }
        return most(times);
    }

    private static int most(List<Integer> times) {
        TreeMap<Integer, Integer> tally = new TreeMap<>();
        for (int t : times) {
            tally.merge(t, 1, Integer::sum);
        }
        int greatest = Collections.max(tally.values());
        for (Map.Entry<Integer, Integer> e : tally.entrySet()) {
            if (e.getValue() == greatest) {
                return e.getKey();
            }
        }
        throw new IllegalStateException();
    }

    private int wakes(Bed b, int sleeper) {
        return wakesAt(b.stack(), b.at().get(sleeper), wide.get(sleeper));
    }

    private boolean noBlanket(int b) {
        return b < 0 || b >= blankets.size();
    }

    private boolean noSleeper(int s) {
        return s < 0 || s >= wide.size();
    }

    private static boolean noTime(int t) {
        return t < 0 || t > 10;
    }

    int blanket(int b, int what) {
        if (noBlanket(b)) {
            return UNKNOWN;
        }
        Blanket told = blankets.get(b);
        int below = bed.stack().indexOf(b);
        return switch (what) {
            case 0 -> told.from();
            case 1 -> told.to();
            case 2 -> told.century();
            case 3 -> told.kind();
            case 4 -> below < 0 ? NONE : below;
            default -> OUTSIDE;
        };
    }

    int sleeper(int s, int what) {
        if (noSleeper(s)) {
            return UNKNOWN;
        }
        return switch (what) {
            case 0 -> bed.at().get(s);
            case 1 -> wide.get(s);
            case 2 -> wakes(bed, s);
            case 3 -> bed.woken().get(s);
            default -> OUTSIDE;
        };
    }

    int cell(int c, int what) {
        if (c < 0 || c > 5 || what < 0 || what > 2) {
            return OUTSIDE;
        }
        if (what == 0) {
            return time(bed.stack(), c);
        }
        if (what == 1) {
            return (int) bed.stack().stream().filter(b -> blankets.get(b).on(c)).count();
        }
        return sleeperThere(bed, c);
    }

    private int sleeperThere(Bed b, int c) {
        for (int s = 0; s < wide.size(); s++) {
            if (c >= b.at().get(s) && c - b.at().get(s) < wide.get(s)) {
                return s;
            }
        }
        return NONE;
    }

    // ---- acts: the bed that then is, or null

    private Bed after(Bed b, int how, int who) {
        List<Integer> stack = new ArrayList<>(b.stack());
        switch (how) {
            case 1:
                return stack.remove((Integer) who) ? b.withStack(stack) : null;
            case 2:
            case 3:
                if (noBlanket(who) || stack.contains(who)) {
                    return null;
                }
                stack.add(how == 2 ? stack.size() : 0, who);
                return b.withStack(stack);
            case 4:
            case 5:
                return noSleeper(who) ? null : turned(b, who, how == 4 ? 1 : -1);
            default:
                return how == 0 && who == 0 ? slept(b) : null;
        }
    }

    private Bed turned(Bed b, int who, int by) {
        List<Integer> at = new ArrayList<>(b.at());
        int to = at.get(who) + by;
        for (int c = to; c < to + wide.get(who); c++) {
            if (c < 0 || c > 5 || sleeperThere(b, c) != NONE && sleeperThere(b, c) != who) {
                return null;
            }
        }
        at.set(who, to);
        return new Bed(b.stack(), at, b.woken(), b.night());
    }

    private Bed slept(Bed b) {
        List<Integer> woken = new ArrayList<>();
        for (int s = 0; s < wide.size(); s++) {
            woken.add(b.woken().get(s) | 1 << wakes(b, s));
        }
        return new Bed(b.stack(), b.at(), woken, b.night() + 1);
    }

    private boolean act(int how, int who) {
        Bed next = after(bed, how, who);
        if (next == null) {
            return false;
        }
        past.addLast(bed);
        if (past.size() > 14) {
            past.removeFirst();
        }
        bed = next;
        return true;
    }

    int move(int how, int b) {
        if (noBlanket(b)) {
            return UNKNOWN;
        }
        return act(how, b) ? bed.stack().size() : STATE;
    }

    int turn(int s, int way) {
        if (noSleeper(s)) {
            return UNKNOWN;
        }
        if (way < 1 || way > 2) {
            return OUTSIDE;
        }
        return act(3 + way, s) ? bed.at().get(s) : STATE;
    }

    int night() {
        act(0, 0);
        return bed.night();
    }

    int undo() {
        if (past.isEmpty()) {
            return STATE;
        }
        bed = past.removeLast();
        return past.size();
    }

    // ---- what to do

    private static List<Integer> without(List<Integer> stack, int bits) {
        List<Integer> left = new ArrayList<>(stack);
        left.removeIf(b -> (bits & 1 << b) != 0);
        return left;
    }

    private List<Integer> subsets() {
        List<Integer> all = new ArrayList<>(List.of(0));
        for (int b : bed.stack()) {
            for (int bits : List.copyOf(all)) {
                all.add(bits | 1 << b);
            }
        }
        return all;
    }

    int toTake(int s, int t) {
        if (noSleeper(s)) {
            return UNKNOWN;
        }
        if (noTime(t)) {
            return OUTSIDE;
        }
        return subsets().stream()
                .filter(bits -> wakes(bed.withStack(without(bed.stack(), bits)), s) == t)
                .min((a, b) -> Integer.bitCount(a) != Integer.bitCount(b)
                        ? Integer.bitCount(a) - Integer.bitCount(b) : a - b)
                .orElse(NONE);
    }

    int toTurn(int s, int t) {
        if (noSleeper(s)) {
            return UNKNOWN;
        }
        if (noTime(t)) {
            return OUTSIDE;
        }
        int from = bed.at().get(s);
        int best = NONE;
        int bestRank = 999;
        for (int p = 0; p <= 6 - wide.get(s); p++) {
            int rank = 2 * Math.abs(p - from) + (p < from ? 1 : 0);
            if (wakesAt(bed.stack(), p, wide.get(s)) == t && rank < bestRank) {
                bestRank = rank;
                best = p == from ? 0 : p > from ? 10 + p - from : 20 + from - p;
            }
        }
        return best;
    }

    int toTuck(int s, int t) {
        if (noSleeper(s)) {
            return UNKNOWN;
        }
        if (t < 0 || t > 9) {
            return OUTSIDE;
        }
        if (wakes(bed, s) == t) {
            return 0;
        }
        int best = 999;
        int added = blankets.size();
        List<Integer> stack = new ArrayList<>(bed.stack());
        stack.add(0, added);
        for (int a = 0; a < 6; a++) {
            for (int b = a; b < 6; b++) {
                blankets.add(new Blanket(added, a, b, t, 0));
                if (wakes(bed.withStack(stack), s) == t) {
                    best = Math.min(best, 10 * (b - a + 1) + a);
                }
                blankets.remove(added);
            }
        }
        return best;
    }

    private static void permute(List<Integer> left, List<Integer> sofar, List<List<Integer>> into) {
        if (left.isEmpty()) {
            into.add(List.copyOf(sofar));
        }
        for (int i = 0; i < left.size(); i++) {
            int b = left.remove(i);
            sofar.add(b);
            permute(left, sofar, into);
            sofar.remove(sofar.size() - 1);
            left.add(i, b);
        }
    }

    private List<List<Integer>> permutations() {
        List<List<Integer>> all = new ArrayList<>();
        permute(new ArrayList<>(bed.stack()), new ArrayList<>(), all);
        return all;
    }

    private static int figures(List<Integer> stack) {
        StringBuilder s = new StringBuilder("0");
        for (int b : stack) {
            s.append(b + 1);
        }
        return Integer.parseInt(s.toString());
    }

    int orders(int s, int t, boolean first) {
        if (noSleeper(s)) {
            return UNKNOWN;
        }
        if (noTime(t)) {
            return OUTSIDE;
        }
        List<Integer> such = new ArrayList<>();
        for (List<Integer> order : permutations()) {
            if (wakes(bed.withStack(order), s) == t) {
                such.add(figures(order));
            }
        }
        return !first ? such.size() : such.isEmpty() ? NONE : Collections.min(such);
    }

    int judge(int n, int row) {
        if (n < 1 || n > 4 || row < 0 || String.valueOf(row).length() > 2 * n) {
            return OUTSIDE;
        }
        String told = String.format("%0" + 2 * n + "d", row);
        Bed then = bed;
        for (int i = 0; i < n; i++) {
            then = after(then, told.charAt(2 * i) - '0', told.charAt(2 * i + 1) - '0');
            if (then == null) {
                return i;
            }
        }
        return NONE;
    }

    // ---- seen

    int see(int s, int t) {
        if (noSleeper(s)) {
            return UNKNOWN;
        }
        if (noTime(t)) {
            return OUTSIDE;
        }
        if (seen.size() == 6) {
            return FULL;
        }
        seen.add(new int[] {s, t});
        return seen.size();
    }

    int unsee() {
        int was = seen.size();
        seen.clear();
        return was;
    }

    int gone() {
        int bits = allSo(bed) ? 64 : 0;
        for (int b : bed.stack()) {
            bits |= allSo(bed.withStack(without(bed.stack(), 1 << b))) ? 1 << b : 0;
        }
        return bits;
    }

    private boolean allSo(Bed b) {
        return seen.stream().allMatch(o -> noSleeper(o[0]) || wakes(b, o[0]) == o[1]);
    }

    int where(int w, int t) {
        if (w < 1 || w > 3 || noTime(t)) {
            return OUTSIDE;
        }
        int bits = 0;
        for (int p = 0; p <= 6 - w; p++) {
            bits |= wakesAt(bed.stack(), p, w) == t ? 1 << p : 0;
        }
        return bits;
    }

    // ---- shares, rests, chances

    private static int told(BigInteger above, BigInteger below, boolean upper) {
        BigInteger common = above.gcd(below);
        return (upper ? above : below).divide(common).intValueExact();
    }

    private int notModern(List<Integer> stack) {
        int many = 0;
        for (int c = 0; c < 6; c++) {
            many += time(stack, c) != 10 ? 1 : 0;
        }
        return many;
    }

    int share(int b, boolean upper) {
        if (noBlanket(b)) {
            return UNKNOWN;
        }
        if (!bed.stack().contains(b)) {
            return upper ? 0 : 1;
        }
        long sum = 0;
        List<List<Integer>> all = permutations();
        for (List<Integer> coming : all) {
            List<Integer> come = coming.subList(0, coming.indexOf(b));
            List<Integer> ahead = new ArrayList<>(bed.stack());
            ahead.retainAll(come);
            List<Integer> then = new ArrayList<>(bed.stack());
            then.removeIf(other -> other != b && !come.contains(other));
            sum += notModern(then) - notModern(ahead);
        }
        return told(BigInteger.valueOf(sum), BigInteger.valueOf(all.size()), upper);
    }

    private int loss(int p, int w, int t, int q, int v) {
        boolean shared = false;
        for (int c = p; c < p + w; c++) {
            shared |= c >= q && c < q + v;
        }
        return Math.abs(wakesAt(bed.stack(), p, w) - t) + (shared ? 5 : 0);
    }

    int rests(int one, int other, int t, int u, int what) {
        if (noSleeper(one) || noSleeper(other)) {
            return UNKNOWN;
        }
        if (one == other || noTime(t) || noTime(u) || what < 0 || what > 1) {
            return OUTSIDE;
        }
        int w = wide.get(one);
        int v = wide.get(other);
        List<Integer> pairs = new ArrayList<>();
        for (int p = 0; p <= 6 - w; p++) {
            for (int q = 0; q <= 6 - v; q++) {
                boolean rest = true;
                for (int r = 0; r < 6; r++) {
                    rest &= r > 6 - w || loss(r, w, t, q, v) >= loss(p, w, t, q, v);
                    rest &= r > 6 - v || loss(r, v, u, p, w) >= loss(q, v, u, p, w);
                }
                if (rest) {
                    pairs.add(10 * p + q);
                }
            }
        }
        return what == 0 ? pairs.size() : pairs.isEmpty() ? NONE : pairs.get(0);
    }

    int kicked(int s, int t, int x, boolean upper) {
        if (noSleeper(s)) {
            return UNKNOWN;
        }
        if (noTime(t) || x < 0 || x > 10) {
            return OUTSIDE;
        }
        BigInteger sum = likely(bed, 0, s, t, x);
        return told(sum, BigInteger.TEN.pow(bed.stack().size()), upper);
    }

    private BigInteger likely(Bed b, int level, int s, int t, int x) {
        if (level == b.stack().size()) {
            return wakes(b, s) == t ? BigInteger.ONE : BigInteger.ZERO;
        }
        List<Integer> fewer = new ArrayList<>(b.stack());
        fewer.remove(level);
        BigInteger taken = likely(b.withStack(fewer), level, s, t, x);
        BigInteger left = likely(b, level + 1, s, t, x);
        return taken.multiply(BigInteger.valueOf(x)).add(left.multiply(BigInteger.valueOf(10 - x)));
    }

    long seed(long v) {
        long was = seed;
        seed = v;
        return was;
    }

    int weeks(int m) {
        if (m < 1 || m > 30) {
            return OUTSIDE;
        }
        BigInteger whole = BigInteger.ONE.shiftLeft(64);
        Bed then = bed;
        int sum = 0;
        for (int i = 0; i < m; i++) {
            BigInteger x = BigInteger.valueOf(seed).multiply(new BigInteger("6364136223846793005"))
                    .add(new BigInteger("1442695040888963407")).mod(whole);
            seed = x.longValue();
            int drawn = x.shiftRight(33).mod(BigInteger.valueOf(18)).intValue();
            Bed next = after(then, drawn / 6 + 1, drawn % 6);
            then = next == null ? then : next;
            for (int s = 0; s < wide.size(); s++) {
                sum += wakes(then, s);
            }
        }
        return sum;
    }

    // ---- slots

    int keep(int slot) {
        if (slot < 0 || slot > 1) {
            return UNKNOWN;
        }
        slots.put(slot, bed);
        return bed.night();
    }

    int again(int slot) {
        if (slot < 0 || slot > 1) {
            return UNKNOWN;
        }
        if (!slots.containsKey(slot)) {
            return STATE;
        }
        bed = slots.get(slot);
        past.clear();
        return bed.night();
    }

    int count(int what) {
        int modern = 0;
        for (int c = 0; c < 6; c++) {
            modern |= time(bed.stack(), c) == 10 ? 1 << c : 0;
        }
        return switch (what) {
            case 0 -> text.length();
            case 1 -> blankets.size();
            case 2 -> wide.size();
            case 3 -> bed.night();
            case 4 -> figures(bed.stack());
            case 5 -> modern;
            case 6 -> past.size();
            case 7 -> seen.size();
            default -> OUTSIDE;
        };
    }
}
