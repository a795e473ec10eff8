import java.util.ArrayList;
import java.util.Collections;
import java.util.HashMap;
import java.util.List;
import java.util.Map;
import java.util.TreeSet;
import java.util.regex.Matcher;
import java.util.regex.Pattern;

/**
 * The document once more, for ModelTest to compare with: texts by a pattern, sheets as true arrays whose
 * FAULTS are what the machine throws, yarns as classes, loops as objects.
 */
public final class Model {
    private static final Pattern TEXT = Pattern.compile("r[3-8](;[pbt][1-9][sidck]{1,5}){1,6}");
    private static final String SIGNS = "sidck";

    static final class Loop {
        final int number;
        final int sign;
        final List<Loop> in;
        int above = 0;

        Loop(int number, int sign, List<Loop> in) {
            this.number = number;
            this.sign = sign;
            this.in = in;
        }

        TreeSet<Integer> roots() {
            TreeSet<Integer> all = new TreeSet<>();
            if (sign < 0) {
                all.add(number);
            }
            for (Loop loop : in) {
                all.addAll(loop.roots());
            }
            return all;
        }
    }

    interface Tugged {
        int signCount();

        void leave(int body);

        default int tugged() {
            leave(4);
            return signCount();
        }
    }

    class Plain implements Tugged {
        final int spun;
        final String signs;

        Plain(int spun, String signs) {
            this.spun = spun;
            this.signs = signs;
        }

        int wide() {
            return spun;
        }

        int told() {
            leave(1);
            return spun;
        }

        final int plainTold() {
            leave(1);
            return spun;
        }

        @Override
        public int signCount() {
            return signs.length();
        }

        @Override
        public void leave(int body) {
            trace = 31 * trace + body;
        }
    }

    class Brushed extends Plain {
        Brushed(int spun, String signs) {
            super(spun, signs);
        }

        @Override
        int wide() {
            return super.wide() + 1;
        }

        @Override
        int told() {
            leave(2);
            return super.told() + 100;
        }
    }

    final class Twined extends Brushed {
        Twined(int spun, String signs) {
            super(spun, signs);
        }

        @Override
        int wide() {
            return 2 * spun;
        }

        @Override
        int told() {
            leave(3);
            int brushed = super.told();
            return brushed + plainTold();
        }

        @Override
        public int tugged() {
            leave(5);
            return 50;
        }
    }

    private int ring = 0;
    private List<Plain> rounds = new ArrayList<>();
    private final List<int[]> readings = new ArrayList<>();
    private final Object[] sheets = new Object[4];
    private int trace = 0;
    private int fault = 0;

    private Plain yarn(int kind, int spun, String signs) {
        return kind == 0 ? new Plain(spun, signs) : kind == 1 ? new Brushed(spun, signs) : new Twined(spun, signs);
    }

    private static int kindOf(Plain yarn) {
        return yarn instanceof Twined ? 2 : yarn instanceof Brushed ? 1 : 0;
    }

    /** The loops of one ROUND upon those below; null: it does not COME OUT. */
    private static List<Loop> work(List<Loop> below, String signs) {
        List<Loop> made = new ArrayList<>();
        int used = 0;
        for (int times = 0; used < below.size(); times++) {
            if (times > 60) {
                return null;
            }
            for (char sign : signs.toCharArray()) {
                int uses = sign == 'd' ? 2 : sign == 'c' ? 0 : 1;
                int makes = sign == 'i' ? 2 : sign == 'k' ? 0 : 1;
                if (used + uses > below.size()) {
                    return null;
                }
                for (int m = 0; m < makes; m++) {
                    made.add(new Loop(made.size(), SIGNS.indexOf(sign), below.subList(used, used + uses)));
                }
                used += uses;
            }
        }
        if (made.isEmpty() || made.size() > 60) {
            return null;
        }
        for (Loop loop : made) {
            for (Loop in : loop.in) {
                in.above++;
            }
        }
        return made;
    }

    /** All loops, ROUND by ROUND with the RING, as far as they COME OUT. */
    private static List<List<Loop>> workAll(int ring, List<Plain> rounds) {
        List<List<Loop>> all = new ArrayList<>();
        List<Loop> first = new ArrayList<>();
        for (int k = 0; k < ring; k++) {
            first.add(new Loop(k, -1, List.of()));
        }
        all.add(first);
        for (Plain round : rounds) {
            List<Loop> next = work(all.get(all.size() - 1), round.signs);
            if (next == null) {
                return all;
            }
            all.add(next);
        }
        return all;
    }

    private List<List<Loop>> all() {
        return workAll(ring, rounds);
    }

    private int lastLoops() {
        return all().get(rounds.size()).size();
    }

    private int come(int number) {
        fault = number;
        return -10 - number;
    }

    /** Cells taken as a row of a LANE, with the machine's own FAULTS. */
    private int[] take(int sheet, int lane, int i, int n) {
        Object row = sheets[sheet];
        byte[] bytes = lane == 0 ? (byte[]) row : null;
        short[] shorts = lane == 1 ? (short[]) row : null;
        int[] ints = lane == 2 ? (int[]) row : null;
        int length = lane == 0 ? bytes.length : lane == 1 ? shorts.length : ints.length;
        int[] taken = new int[Math.min(n, 61)];
        if (i < 0 || i > length) {
            throw new ArrayIndexOutOfBoundsException();
        }
        for (int k = 0; k < taken.length; k++) {
            taken[k] = lane == 0 ? bytes[i + k] : lane == 1 ? shorts[i + k] : ints[i + k];
        }
        return taken;
    }

    private int faultOf(RuntimeException thrown) {
        if (thrown instanceof NullPointerException) {
            return come(1);
        }
        if (thrown instanceof ClassCastException || thrown instanceof ArrayStoreException) {
            return come(2);
        }
        if (thrown instanceof IndexOutOfBoundsException) {
            return come(3);
        }
        if (thrown instanceof NegativeArraySizeException) {
            return come(4);
        }
        throw thrown;
    }

    public int piece(int sheet, int lane, int i, int n) {
        fault = 0;
        if (sheet < 0 || sheet > 3) {
            return -1;
        }
        if (lane < 0 || lane > 2) {
            return -2;
        }
        int[] codes;
        try {
            codes = take(sheet, lane, i, n);
        } catch (RuntimeException thrown) {
            return faultOf(thrown);
        }
        StringBuilder text = new StringBuilder();
        for (int code : codes) {
            text.append(code < 0 || code > 127 ? '?' : (char) code);
        }
        Matcher whole = TEXT.matcher(text);
        if (!whole.matches()) {
            for (int place = 0; place < codes.length; place++) {
                Matcher begun = TEXT.matcher(text.substring(0, place + 1));
                if (!begun.matches() && !begun.hitEnd()) {
                    return -100 - place;
                }
            }
            return -100 - codes.length;
        }
        String[] parts = text.toString().split(";");
        List<Plain> told = new ArrayList<>();
        for (int r = 1; r < parts.length; r++) {
            told.add(yarn("pbt".indexOf(parts[r].charAt(0)), parts[r].charAt(1) - '0', parts[r].substring(2)));
        }
        int itsRing = parts[0].charAt(1) - '0';
        int out = workAll(itsRing, told).size() - 1;
        if (out < told.size()) {
            return -200 - (out + 1);
        }
        ring = itsRing;
        rounds = told;
        readings.clear();
        return told.size();
    }

    private boolean isRound(int r) {
        return r >= 1 && r <= rounds.size();
    }

    private int out(List<Plain> of, int r) {
        int out = 0;
        for (Plain round : of.subList(0, r)) {
            out += round.wide();
        }
        return out;
    }

    public int ofRound(int r, int what) {
        if (!isRound(r)) {
            return -1;
        }
        Plain round = rounds.get(r - 1);
        int there = all().get(r).size();
        int uses = 0;
        for (char sign : round.signs.toCharArray()) {
            uses += sign == 'd' ? 2 : sign == 'c' ? 0 : 1;
        }
        int[] answers = {kindOf(round), round.spun, round.wide(), round.signs.length(), there, all().get(r - 1).size() / uses,
            there * round.wide(), out(rounds, r), Integer.signum(there * round.wide() - 6 * out(rounds, r))};
        return what < 0 || what > 8 ? -2 : answers[what];
    }

    public int loops(int r) {
        return ring > 0 && r >= 0 && r <= rounds.size() ? all().get(r).size() : -1;
    }

    public int sign(int r, int i) {
        return isRound(r) && i >= 0 && i < rounds.get(r - 1).signs.length() ? SIGNS.indexOf(rounds.get(r - 1).signs.charAt(i)) : -1;
    }

    private static int set(Iterable<Integer> numbers) {
        int set = 0;
        for (int number : numbers) {
            set += 1 << number;
        }
        return set;
    }

    public int loop(int r, int k, int what) {
        if (!isRound(r) || k < 0 || k >= loops(r)) {
            return -1;
        }
        Loop loop = all().get(r).get(k);
        boolean none = loop.in.isEmpty();
        switch (what) {
            case 0: return loop.sign;
            case 1: return none ? -9 : loop.in.get(0).number;
            case 2: return none ? -9 : loop.in.get(loop.in.size() - 1).number;
            case 3: return loop.above;
            case 4: return set(loop.roots());
            default: return -2;
        }
    }

    public int spun(int r, int v) {
        if (!isRound(r)) {
            return -1;
        }
        if (v < 1 || v > 9) {
            return -2;
        }
        Plain was = rounds.get(r - 1);
        rounds.set(r - 1, yarn(kindOf(was), v, was.signs));
        return was.spun;
    }

    public int puton(int kind, int v, int sheet, int lane, int i, int n) {
        fault = 0;
        if (kind < 0 || kind > 2 || v < 1 || v > 9) {
            return -2;
        }
        if (ring == 0) {
            return -3;
        }
        if (sheet < 0 || sheet > 3) {
            return -1;
        }
        if (lane < 0 || lane > 2 || n < 1 || n > 5) {
            return -2;
        }
        StringBuilder signs = new StringBuilder();
        try {
            for (int sign : take(sheet, lane, i, n)) {
                signs.append(sign < 0 || sign > 4 ? '?' : SIGNS.charAt(sign));
            }
        } catch (RuntimeException thrown) {
            return faultOf(thrown);
        }
        if (signs.indexOf("?") >= 0) {
            return -2;
        }
        if (rounds.size() == 6) {
            return -4;
        }
        List<Loop> made = work(all().get(rounds.size()), signs.toString());
        if (made == null) {
            return -3;
        }
        rounds.add(yarn(kind, v, signs.toString()));
        return made.size();
    }

    public int ravel(int n) {
        if (n < 0 || n > rounds.size()) {
            return -2;
        }
        if (ring == 0) {
            return -3;
        }
        rounds = new ArrayList<>(rounds.subList(0, rounds.size() - n));
        return rounds.size();
    }

    public int day(int sheet, int lane, int i, int n, int what) {
        fault = 0;
        if (sheet < 0 || sheet > 3) {
            return -1;
        }
        if (lane < 0 || lane > 2 || n < 0 || n > 20 || !List.of(0, 1, 2, 3, 4, 10, 11, 12, 13, 14, 15, 16).contains(what)) {
            return -2;
        }
        int[] acts;
        try {
            acts = take(sheet, lane, i, n);
        } catch (RuntimeException thrown) {
            return faultOf(thrown);
        }
        if (ring == 0) {
            return -3;
        }
        for (int act : acts) {
            if (!List.of(0, 1, 2, 3, 4, 5, 11, 12, 13, 14, 15, 16).contains(act)) {
                return -2;
            }
        }
        List<Plain> then = new ArrayList<>(rounds);
        for (int place = 0; place < acts.length; place++) {
            if (!can(then, acts[place])) {
                return what == 1 ? place : -100 - place;
            }
        }
        int last = then.size();
        List<List<Loop>> all = workAll(ring, then);
        switch (what) {
            case 0: return all.get(last).size();
            case 1: return -9;
            case 2: return last;
            case 3: return last == 0 ? -9 : all.get(last).size() * then.get(last - 1).wide();
            case 4: return out(then, last);
            default: return what - 10 > last ? -9 : all.get(what - 10).size();
        }
    }

    private boolean can(List<Plain> then, int act) {
        if (act == 0) {
            return !then.isEmpty() && then.remove(then.size() - 1) != null;
        }
        if (act <= 5) {
            then.add(yarn(0, 1, SIGNS.substring(act - 1, act)));
            return then.size() <= 6 && workAll(ring, then).size() == then.size() + 1;
        }
        int r = act - 10;
        if (r > then.size() || then.get(r - 1).spun == 9) {
            return false;
        }
        Plain was = then.get(r - 1);
        then.set(r - 1, yarn(kindOf(was), was.spun + 1, was.signs));
        return true;
    }

    private static String plan(int number) {
        return number < 5 ? SIGNS.substring(number, number + 1)
            : "" + SIGNS.charAt((number - 5) / 5) + SIGNS.charAt((number - 5) % 5);
    }

    private static final Map<Integer, Integer> MADE = new HashMap<>();

    /** How many loops a PLAN makes of so many; 0: it does not COME OUT. */
    private static int made(int below, int number) {
        return MADE.computeIfAbsent(below * 30 + number, key -> {
            List<Loop> loops = new ArrayList<>();
            for (int k = 0; k < below; k++) {
                loops.add(new Loop(k, -1, List.of()));
            }
            List<Loop> next = work(loops, plan(number));
            return next == null ? 0 : next.size();
        });
    }

    /** From each number of loops, how many ROUNDS of PLANS it takes to v: found from v back. */
    private static int[] distances(int v) {
        int[] far = new int[61];
        java.util.Arrays.fill(far, 1000);
        far[v] = 0;
        for (int time = 0; time < 60; time++) {
            for (int from = 1; from <= 60; from++) {
                for (int number = 0; number < 30; number++) {
                    int to = made(from, number);
                    if (to > 0) {
                        far[from] = Math.min(far[from], far[to] + 1);
                    }
                }
            }
        }
        return far;
    }

    private static final Map<Integer, int[]> FAR = new HashMap<>();

    public int fewest(int v, int k) {
        if (v < 1 || v > 60 || k < -1 || k > 9) {
            return -2;
        }
        if (ring == 0) {
            return -3;
        }
        int[] far = FAR.computeIfAbsent(v, Model::distances);
        int at = lastLoops();
        if (far[at] >= 1000) {
            return -9;
        }
        if (k == -1) {
            return far[at];
        }
        List<Integer> row = new ArrayList<>();
        while (at != v) {
            int number = 0;
            while (made(at, number) == 0 || far[made(at, number)] != far[at] - 1) {
                number++;
            }
            row.add(number);
            at = made(at, number);
        }
        return k < row.size() ? row.get(k) : -9;
    }

    public long ways(int n, int v) {
        return n < 0 || n > 5 || v < 1 || v > 60 || ring == 0 ? Long.MIN_VALUE : waysFrom(lastLoops(), n, v);
    }

    private static final Map<Integer, Long> WAYS = new HashMap<>();

    private static long waysFrom(int from, int n, int v) {
        if (n == 0) {
            return from == v ? 1 : 0;
        }
        int key = (from * 6 + n) * 61 + v;
        Long known = WAYS.get(key);
        if (known != null) {
            return known;
        }
        long ways = 0;
        for (int number = 5; number < 30; number++) {
            int made = made(from, number);
            ways += made == 0 ? 0 : waysFrom(made, n - 1, v);
        }
        WAYS.put(key, ways);
        return ways;
    }

    public int bare(int r) {
        if (loops(r) < 0) {
            return -1;
        }
        int bare = 0;
        for (Loop loop : all().get(r)) {
            bare += loop.above == 0 ? 1 : 0;
        }
        return bare;
    }

    public int reading(int r, int v) {
        if (!isRound(r)) {
            return -1;
        }
        if (v < 0 || v > 1080) {
            return -2;
        }
        if (readings.size() == 8) {
            return -4;
        }
        readings.add(new int[] {r, v});
        return readings.size() - 1;
    }

    public int back(int n) {
        if (n < 0 || n > readings.size()) {
            return -2;
        }
        for (int k = 0; k < n; k++) {
            readings.remove(readings.size() - 1);
        }
        return readings.size();
    }

    private boolean canBe(int itsRing, List<Plain> its) {
        List<List<Loop>> all = workAll(itsRing, its);
        if (all.size() <= its.size()) {
            return false;
        }
        for (int[] reading : readings) {
            int r = reading[0];
            if (r > its.size() || all.get(r).size() * its.get(r - 1).wide() != reading[1]) {
                return false;
            }
        }
        return true;
    }

    public int rings() {
        if (ring == 0) {
            return -3;
        }
        List<Integer> can = new ArrayList<>();
        for (int other = 3; other <= 8; other++) {
            can.addAll(canBe(other, rounds) ? List.of(other) : List.of());
        }
        return set(can);
    }

    public int kinds(int r) {
        if (!isRound(r)) {
            return -1;
        }
        List<Integer> can = new ArrayList<>();
        for (int kind = 0; kind < 3; kind++) {
            List<Plain> other = new ArrayList<>(rounds);
            other.set(r - 1, yarn(kind, rounds.get(r - 1).spun, rounds.get(r - 1).signs));
            can.addAll(canBe(ring, other) ? List.of(kind) : List.of());
        }
        return set(can);
    }

    public int signings(int r, int i) {
        if (sign(r, i) < 0) {
            return -1;
        }
        List<Integer> can = new ArrayList<>();
        for (int sign = 0; sign < 5; sign++) {
            Plain was = rounds.get(r - 1);
            String signs = was.signs.substring(0, i) + SIGNS.charAt(sign) + was.signs.substring(i + 1);
            List<Plain> other = new ArrayList<>(rounds);
            other.set(r - 1, yarn(kindOf(was), was.spun, signs));
            can.addAll(canBe(ring, other) ? List.of(sign) : List.of());
        }
        return set(can);
    }

    public long odds(int k, int which) {
        if (k < 0 || k >= ring || which < 0 || which > 1) {
            return Long.MIN_VALUE;
        }
        int upper = 0;
        List<Loop> last = all().get(rounds.size());
        for (Loop loop : last) {
            upper += Collections.frequency(loop.roots(), k);
        }
        int divisor = java.math.BigInteger.valueOf(upper).gcd(java.math.BigInteger.valueOf(last.size())).intValue();
        return (which == 0 ? upper : last.size()) / divisor;
    }

    public int sheet(int k, int lane, int n) {
        fault = 0;
        if (k < 0 || k > 3) {
            return -1;
        }
        if (lane < 0 || lane > 2 || n > 60) {
            return -2;
        }
        try {
            sheets[k] = lane == 0 ? new byte[n] : lane == 1 ? (Object) new short[n] : new int[n];
        } catch (RuntimeException thrown) {
            return faultOf(thrown);
        }
        return 1;
    }

    public int lose(int k) {
        if (k < 0 || k > 3) {
            return -1;
        }
        int had = sheets[k] == null ? 0 : 1;
        sheets[k] = null;
        return had;
    }

    public int put(int k, int i, int v) {
        fault = 0;
        if (k < 0 || k > 3) {
            return -1;
        }
        try {
            Object row = sheets[k];
            if (row instanceof byte[]) {
                ((byte[]) row)[i] = (byte) v;
            } else if (row instanceof short[]) {
                ((short[]) row)[i] = (short) v;
            } else {
                ((int[]) row)[i] = v;
            }
        } catch (RuntimeException thrown) {
            return faultOf(thrown);
        }
        return 1;
    }

    public long cell(int k, int i, int lane) {
        fault = 0;
        if (k < 0 || k > 3 || lane < 0 || lane > 2) {
            return Long.MIN_VALUE;
        }
        try {
            return take(k, lane, i, 1)[0];
        } catch (RuntimeException thrown) {
            faultOf(thrown);
            return Long.MIN_VALUE;
        }
    }

    public int copy(int k, int i, int other, int j, int n) {
        fault = 0;
        if (k < 0 || k > 3 || other < 0 || other > 3) {
            return -1;
        }
        try {
            System.arraycopy(sheets[k], i, sheets[other], j, n);
        } catch (RuntimeException thrown) {
            return faultOf(thrown);
        }
        return n;
    }

    public int tell(int r) {
        return isRound(r) ? rounds.get(r - 1).told() : -1;
    }

    public int tug(int r) {
        return isRound(r) ? rounds.get(r - 1).tugged() : -1;
    }

    public int as(int r, int kind) {
        fault = 0;
        if (!isRound(r)) {
            return -1;
        }
        if (kind < 0 || kind > 2) {
            return -2;
        }
        try {
            Plain yarn = rounds.get(r - 1);
            Plain taken = kind == 0 ? yarn : kind == 1 ? (Brushed) yarn : (Twined) yarn;
            return taken == null ? 0 : 1;
        } catch (ClassCastException thrown) {
            return faultOf(thrown);
        }
    }

    public int trace() {
        return trace;
    }

    public int fault() {
        return fault;
    }

    public int many(int what) {
        if (what < 0 || what > 3) {
            return -2;
        }
        int loops = 0;
        for (List<Loop> round : all()) {
            loops += round.size();
        }
        return what == 0 ? rounds.size() : what == 1 ? lastLoops() : what == 2 ? loops : readings.size();
    }
}
