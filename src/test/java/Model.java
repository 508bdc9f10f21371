import java.lang.reflect.Array;
import java.math.BigInteger;
import java.util.ArrayList;
import java.util.List;
import java.util.Objects;
import java.util.TreeSet;
import java.util.function.IntPredicate;

/**
 * The document once more, written in another way: kinds are classes, SHEETS are Java's own arrays, the machine's
 * FAULTS come from the machine itself, orders and draws are gone through one by one.
 */
final class Model {
    static final long UNKNOWN = -1, OUTSIDE = -2, STATE = -3, FULL = -4, NONE = -9, LOST = Long.MIN_VALUE;

    int trace = 0;

    interface Rattling {
        int number();

        void mark(int body);

        default int rattled() {
            mark(4);
            return number();
        }
    }

    class Plain implements Rattling {
        int number, colour, size, holes, count, pence;

        public int number() {
            return number;
        }

        public void mark(int body) {
            trace = trace * 31 + body;
        }

        int kind() {
            return 0;
        }

        int lookColour() {
            return colour;
        }

        int lookSize() {
            return size;
        }

        int plainTold() {
            mark(1);
            return pence;
        }

        int told() {
            return plainTold();
        }
    }

    class Shaded extends Plain {
        int kind() {
            return 1;
        }

        int lookColour() {
            return colour == 7 ? 7 : colour + 1;
        }

        int told() {
            mark(2);
            return plainTold() + 100;
        }
    }

    class Old extends Shaded {
        int kind() {
            return 2;
        }

        int lookColour() {
            return colour;
        }

        int lookSize() {
            return size == 0 ? 0 : size - 1;
        }

        int told() {
            mark(3);
            int shaded = super.told();
            return shaded + plainTold();
        }

        public int rattled() {
            mark(5);
            return 50;
        }
    }

    record Reading(int tube, boolean alike) {
    }

    private final Object[] sheets = new Object[4];
    private String text = null;
    private List<Plain> tubes = new ArrayList<>();
    private List<Reading> readings = new ArrayList<>();
    private int redder, larger, near, fault;

    private static int digit(String text, int place) {
        return text.charAt(place) - '0';
    }

    private Plain tubeOf(char letter) {
        return letter == 't' ? new Plain() : letter == 's' ? new Shaded() : new Old();
    }

    private Plain tube(int t, String told) {
        Plain tube = tubeOf(told.charAt(0));
        tube.number = t;
        tube.colour = digit(told, 1);
        tube.size = digit(told, 2);
        tube.holes = digit(told, 3);
        tube.count = digit(told, 4);
        tube.pence = digit(told, 5);
        return tube;
    }

    private static boolean isText(String s) {
        return s.matches("b[0-7][0-9][24][0-9]{7}(;[tso][0-7][0-9][24][0-9][0-9]){1,6}");
    }

    /** Whether a TEXT goes on with it: its codes, and then those of a TEXT that is known to be one. */
    private static boolean begins(String s) {
        String whole = "b0020000000;t00200;t00200;t00200;t00200;t00200;t00200";
        return s.length() <= whole.length() && isText(s + whole.substring(s.length()));
    }

    private static int[] numbers(Object row, int lane, int i, int n) {
        Object taken = lane == 0 ? (byte[]) row : lane == 1 ? (short[]) row : (int[]) row;
        int length = Array.getLength(taken);
        int[] numbers = new int[n];
        Objects.checkFromIndexSize(i, n, length);
        for (int m = 0; m < n; m++) {
            numbers[m] = Array.getInt(taken, i + m);
        }
        return numbers;
    }

    interface Body {
        long answer();
    }

    /** A call that names FAULTS: what the machine throws is its FAULT. */
    private long faulting(Body body) {
        fault = 0;
        try {
            return body.answer();
        } catch (NullPointerException e) {
            fault = 1;
        } catch (ClassCastException | ArrayStoreException e) {
            fault = 2;
        } catch (IndexOutOfBoundsException e) {
            fault = 3;
        } catch (NegativeArraySizeException e) {
            fault = 4;
        }
        return -10 - fault;
    }

    private boolean isOpen() {
        return text != null;
    }

    private boolean isTube(int t) {
        return t >= 0 && t < tubes.size();
    }

    private static boolean in(int v, int from, int to) {
        return from <= v && v <= to;
    }

    long shop(int sheet, int lane, int i, int n) {
        return faulting(() -> {
            if (!in(sheet, 0, 3)) {
                return UNKNOWN;
            }
            if (!in(lane, 0, 2)) {
                return OUTSIDE;
            }
            // A length that no row has is INDEX, but the machine must not make an array of it.
            int few = n > 61 ? 61 : n;
            StringBuilder told = new StringBuilder();
            for (int code : numbers(sheets[sheet], lane, i, few)) {
                told.append(code >= 0 && code < 256 ? (char) code : '?');
            }
            for (int k = 1; k <= told.length(); k++) {
                if (!begins(told.substring(0, k))) {
                    return -100 - (k - 1);
                }
            }
            if (!isText(told.toString())) {
                return -100 - told.length();
            }
            open(told.toString());
            return tubes.size();
        });
    }

    private void open(String taken) {
        text = taken;
        tubes = new ArrayList<>();
        for (int at = 12; at < text.length(); at += 7) {
            tubes.add(tube(tubes.size(), text.substring(at, at + 6)));
        }
        readings = new ArrayList<>();
        redder = 0;
        larger = 0;
        near = 0;
    }

    long wanted(int what) {
        if (!in(what, 0, 3)) {
            return OUTSIDE;
        }
        return isOpen() ? digit(text, what == 3 ? 10 : what + 1) : STATE;
    }

    long seen(int place) {
        if (!in(place, 0, 5)) {
            return UNKNOWN;
        }
        return isOpen() ? digit(text, 4 + place) : STATE;
    }

    long ofTube(int t, int what) {
        if (!isTube(t)) {
            return UNKNOWN;
        }
        Plain p = tubes.get(t);
        int[] parts = {p.kind(), p.colour, p.size, p.holes, p.count, p.pence, p.lookColour(), p.lookSize()};
        return in(what, 0, 7) ? parts[what] : OUTSIDE;
    }

    long remember(int toRedder, int toLarger) {
        if (!in(toRedder, 0, 3) || !in(toLarger, 0, 3)) {
            return OUTSIDE;
        }
        if (!isOpen()) {
            return STATE;
        }
        int was = 10 * redder + larger;
        redder = toRedder;
        larger = toLarger;
        return was;
    }

    long near(int v) {
        if (!in(v, 0, 20)) {
            return OUTSIDE;
        }
        if (!isOpen()) {
            return STATE;
        }
        int was = near;
        near = v;
        return was;
    }

    long stock(int t, int v) {
        if (!isTube(t)) {
            return UNKNOWN;
        }
        if (!in(v, 0, 9)) {
            return OUTSIDE;
        }
        int was = tubes.get(t).count;
        tubes.get(t).count = v;
        return was;
    }

    /** COLOUR, SIZE, HOLES of the WANTED button, as it is REMEMBERED by so much more. */
    private int[] memory(int byRedder, int byLarger) {
        return new int[] {Math.min(7, digit(text, 1) + byRedder), Math.min(9, digit(text, 2) + byLarger),
            digit(text, 3)};
    }

    private static int apart(Plain p, int[] from) {
        return Math.abs(p.lookColour() - from[0]) + Math.abs(p.lookSize() - from[1]) + (p.holes != from[2] ? 2 : 0);
    }

    private boolean alike(Plain p) {
        return apart(p, memory(redder, larger)) <= near;
    }

    long far(int t) {
        return isTube(t) ? apart(tubes.get(t), memory(redder, larger)) : UNKNOWN;
    }

    long search(int sheet, int lane, int i, int n, int what) {
        return faulting(() -> {
            if (!in(sheet, 0, 3)) {
                return UNKNOWN;
            }
            if (!in(lane, 0, 2) || !in(n, 0, 20) || !in(what, 0, 2)) {
                return OUTSIDE;
            }
            int[] row = numbers(sheets[sheet], lane, i, n);
            if (!isOpen()) {
                return STATE;
            }
            for (int t : row) {
                if (!isTube(t)) {
                    return UNKNOWN;
                }
            }
            return searched(row)[what];
        });
    }

    private long[] searched(int[] row) {
        int at = 0;
        int seconds = 0;
        for (int m = 0; m < row.length; m++) {
            seconds += 1 + Math.max(at, row[m]) - Math.min(at, row[m]);
            at = row[m];
            if (alike(tubes.get(at))) {
                return new long[] {seconds, at, m + 1};
            }
        }
        return new long[] {seconds, NONE, row.length};
    }

    long sieve(int sheet, int lane, int i, int n, int what) {
        return faulting(() -> {
            if (!in(sheet, 0, 3)) {
                return UNKNOWN;
            }
            if (!in(lane, 0, 2) || !in(n, 0, 3) || !in(what, 0, 1)) {
                return OUTSIDE;
            }
            int[] row = numbers(sheets[sheet], lane, i, n);
            if (!isOpen()) {
                return STATE;
            }
            TreeSet<Integer> met = new TreeSet<>();
            for (int sign : row) {
                if (!in(sign, 0, 2) || !met.add(sign)) {
                    return OUTSIDE;
                }
            }
            return sieved(row)[what];
        });
    }

    private long[] sieved(int[] row) {
        int[] memory = memory(redder, larger);
        List<Plain> left = new ArrayList<>(tubes);
        int seconds = 0;
        for (int sign : row) {
            seconds += left.size();
            left.removeIf(p -> new int[] {p.lookColour(), p.lookSize(), p.holes}[sign] != memory[sign]);
        }
        int set = 0;
        for (Plain p : left) {
            set += 1 << p.number;
        }
        return new long[] {seconds, set};
    }

    private static List<int[]> orders(int n) {
        List<int[]> orders = new ArrayList<>();
        spread(new int[n], 0, orders);
        return orders;
    }

    private static void spread(int[] row, int at, List<int[]> orders) {
        if (at == row.length) {
            orders.add(row.clone());
            return;
        }
        for (int v = 0; v < row.length; v++) {
            boolean met = false;
            for (int m = 0; m < at; m++) {
                met |= row[m] == v;
            }
            if (!met) {
                row[at] = v;
                spread(row, at + 1, orders);
            }
        }
    }

    long quick(int k) {
        if (k < -1) {
            return UNKNOWN;
        }
        if (!isOpen()) {
            return STATE;
        }
        long least = Long.MAX_VALUE;
        int[] best = null;
        for (int[] order : orders(tubes.size())) {
            long together = 0;
            int at = 0;
            int seconds = 0;
            for (int t : order) {
                seconds += Math.abs(at - t) + 1;
                at = t;
                together += seconds;
            }
            if (together < least) {
                least = together;
                best = order;
            }
        }
        return k == -1 ? least : k < best.length ? best[k] : NONE;
    }

    long signs(int k) {
        if (!in(k, -1, 2)) {
            return OUTSIDE;
        }
        if (!isOpen()) {
            return STATE;
        }
        long least = Long.MAX_VALUE;
        int[] best = null;
        for (int[] order : orders(3)) {
            if (sieved(order)[0] < least) {
                least = sieved(order)[0];
                best = order;
            }
        }
        return k == -1 ? least : best[k];
    }

    long sew(int place, int what) {
        if (!in(place, 0, 5)) {
            return UNKNOWN;
        }
        if (!in(what, 0, 2)) {
            return OUTSIDE;
        }
        if (!isOpen()) {
            return STATE;
        }
        // HARM, TUBE and PLACE in one number: the least of them is the one that is due.
        TreeSet<Integer> harms = new TreeSet<>();
        for (Plain p : tubes) {
            for (int to = 0; to < 6 && p.count != 0; to++) {
                int harm = apart(p, memory(0, 0)) * digit(text, 4 + to) + p.pence;
                harm += to == place ? 0 : digit(text, 10);
                harms.add(harm * 100 + p.number * 10 + to);
            }
        }
        if (harms.isEmpty()) {
            return NONE;
        }
        int best = harms.first();
        return what == 0 ? best / 100 : what == 1 ? best / 10 % 10 : best % 10;
    }

    long set(int n) {
        if (!in(n, 1, 9)) {
            return OUTSIDE;
        }
        if (!isOpen()) {
            return STATE;
        }
        TreeSet<Integer> prices = new TreeSet<>();
        for (Plain p : tubes) {
            if (p.count >= n) {
                prices.add(p.pence * n);
            }
        }
        return prices.isEmpty() ? NONE : prices.first();
    }

    /** By how likely each draw misses, one behind another: upper and lower number, in least terms. */
    private BigInteger[] found(int k) {
        BigInteger missed = BigInteger.ONE;
        BigInteger all = BigInteger.ONE;
        int others = 0;
        for (Plain p : tubes) {
            others += alike(p) ? 0 : p.count;
        }
        int buttons = (int) many(1);
        for (int m = 0; m < k && m < buttons; m++) {
            missed = missed.multiply(BigInteger.valueOf(Math.max(0, others - m)));
            all = all.multiply(BigInteger.valueOf(buttons - m));
        }
        BigInteger upper = all.subtract(missed);
        BigInteger common = upper.gcd(all);
        return new BigInteger[] {upper.divide(common), all.divide(common)};
    }

    long tin(int k, int which) {
        if (!in(k, 0, 9) || !in(which, 0, 1) || !isOpen()) {
            return LOST;
        }
        return found(k)[which].longValueExact();
    }

    long half() {
        if (!isOpen()) {
            return STATE;
        }
        for (int k = 0; k <= many(1); k++) {
            BigInteger[] share = found(k);
            if (share[0].shiftLeft(1).compareTo(share[1]) >= 0) {
                return k;
            }
        }
        return NONE;
    }

    long reading(int t, boolean alike) {
        if (!isTube(t)) {
            return UNKNOWN;
        }
        if (readings.size() == 8) {
            return FULL;
        }
        readings.add(new Reading(t, alike));
        return readings.size() - 1;
    }

    long back(int k) {
        if (!in(k, 0, readings.size())) {
            return OUTSIDE;
        }
        readings = new ArrayList<>(readings.subList(0, readings.size() - k));
        return readings.size();
    }

    private boolean allSo(List<Plain> of, int[] memory, int byNear) {
        for (Reading r : readings) {
            if (r.alike != (apart(of.get(r.tube), memory) <= byNear)) {
                return false;
            }
        }
        return true;
    }

    long memories(int what) {
        if (!in(what, 0, 1)) {
            return OUTSIDE;
        }
        if (!isOpen()) {
            return STATE;
        }
        TreeSet<Integer> fit = new TreeSet<>();
        for (int m = 0; m < 16; m++) {
            if (allSo(tubes, memory(m / 4, m % 4), near)) {
                fit.add(m / 4 * 10 + m % 4);
            }
        }
        return what == 0 ? fit.size() : fit.isEmpty() ? NONE : fit.first();
    }

    /** The TUBES with another one in place of one of them. */
    private List<Plain> with(int t, char letter, int colour) {
        Plain p = tubes.get(t);
        Plain other = tubeOf(letter);
        other.number = t;
        other.colour = colour;
        other.size = p.size;
        other.holes = p.holes;
        List<Plain> all = new ArrayList<>(tubes);
        all.set(t, other);
        return all;
    }

    private static long asSet(int n, IntPredicate is) {
        long set = 0;
        for (int k = 0; k < n; k++) {
            set += is.test(k) ? 1L << k : 0;
        }
        return set;
    }

    long kinds(int t) {
        if (!isTube(t)) {
            return UNKNOWN;
        }
        int[] memory = memory(redder, larger);
        return asSet(3, kind -> allSo(with(t, "tso".charAt(kind), tubes.get(t).colour), memory, near));
    }

    long colours(int t) {
        if (!isTube(t)) {
            return UNKNOWN;
        }
        char letter = "tso".charAt(tubes.get(t).kind());
        int[] memory = memory(redder, larger);
        return asSet(8, colour -> allSo(with(t, letter, colour), memory, near));
    }

    long nears() {
        return isOpen() ? asSet(21, v -> allSo(tubes, memory(redder, larger), v)) : STATE;
    }

    long sheet(int k, int lane, int n) {
        return faulting(() -> {
            if (!in(k, 0, 3)) {
                return UNKNOWN;
            }
            if (!in(lane, 0, 2) || n > 60) {
                return OUTSIDE;
            }
            sheets[k] = lane == 0 ? new byte[n] : lane == 1 ? new short[n] : new int[n];
            return 1;
        });
    }

    long lose(int k) {
        if (!in(k, 0, 3)) {
            return UNKNOWN;
        }
        int had = sheets[k] == null ? 0 : 1;
        sheets[k] = null;
        return had;
    }

    long put(int k, int i, int v) {
        return faulting(() -> {
            if (!in(k, 0, 3)) {
                return UNKNOWN;
            }
            if (sheets[k] instanceof byte[] bytes) {
                bytes[i] = (byte) v;
            } else if (sheets[k] instanceof short[] shorts) {
                shorts[i] = (short) v;
            } else {
                ((int[]) sheets[k])[i] = v;
            }
            return 1;
        });
    }

    long cell(int k, int i, int lane) {
        long answer = faulting(() -> {
            if (!in(k, 0, 3) || !in(lane, 0, 2)) {
                return LOST;
            }
            return numbers(sheets[k], lane, i, 1)[0];
        });
        return fault == 0 ? answer : LOST;
    }

    long copy(int k, int i, int other, int j, int n) {
        return faulting(() -> {
            if (!in(k, 0, 3) || !in(other, 0, 3)) {
                return UNKNOWN;
            }
            System.arraycopy(sheets[k], i, sheets[other], j, n);
            return n;
        });
    }

    long tell(int t) {
        return isTube(t) ? tubes.get(t).told() : UNKNOWN;
    }

    long rattle(int t) {
        return isTube(t) ? tubes.get(t).rattled() : UNKNOWN;
    }

    long as(int t, int kind) {
        return faulting(() -> {
            if (!isTube(t)) {
                return UNKNOWN;
            }
            if (!in(kind, 0, 2)) {
                return OUTSIDE;
            }
            Object it = tubes.get(t);
            Plain taken = kind == 0 ? (Plain) it : kind == 1 ? (Shaded) it : (Old) it;
            return taken == null ? 0 : 1;
        });
    }

    long trace() {
        return trace;
    }

    long fault() {
        return fault;
    }

    long many(int what) {
        int buttons = 0;
        for (Plain p : tubes) {
            buttons += p.count;
        }
        int[] counts = {tubes.size(), buttons, readings.size(), near};
        return in(what, 0, 3) ? counts[what] : OUTSIDE;
    }
}
