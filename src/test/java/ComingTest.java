/** Promises 11 to 13: the fewest rounds, in how many ways, and loops that none stands in. */
public final class ComingTest {
    public static void main(String[] args) {
        promise11Fewest();
        promise11First();
        promise11Refusals();
        promise12Ways();
        promise12All();
        promise13Bare();
        Due.end();
    }

    private static void promise11Fewest() {
        LoopRounds x = Due.made("r6;p1i");
        Due.is("as many as there are", x.fewest(12, -1), 0);
        Due.is("no first plan then", x.fewest(12, 0), -9);
        int[] plans = {2, 2, 19};
        Due.is("to 1", x.fewest(1, -1), 3);
        for (int k = 0; k < 10; k++) {
            Due.is("to 1, plan " + k, x.fewest(1, k), k < 3 ? plans[k] : -9);
        }
        Due.is("none to 5", x.fewest(5, -1), -9);
        Due.is("none to 5, first", x.fewest(5, 0), -9);
        x.ravel(1);
        Due.is("from the ring", x.fewest(6, -1), 0);
        Due.is("from the ring", x.fewest(12, 0), 1);
        Due.is("to 36", x.fewest(36, -1), 2);
        Due.is("i ahead of i and c", x.fewest(36, 0), 1);
        Due.is("i and c", x.fewest(36, 1), 13);
        Due.is("the piece is as it was", x.many(0), 0);
        LoopRounds one = Due.made("r3;p1dk");
        Due.is("from one", one.fewest(1, -1), 0);
        Due.is("from one to three", one.fewest(3, 0), 13);
        Due.is("from one to 48", one.fewest(48, -1), 5);
        LoopRounds sixty = Due.made("r6;p1iccc;p1i");
        Due.is("from sixty", sixty.fewest(60, -1), 0);
        Due.is("from sixty to thirty", sixty.fewest(30, 0), 2);
        Due.is("from sixty to one", sixty.fewest(1, -1), -9);
        Due.is("from sixty to five", sixty.fewest(5, -1), 3);
        LoopRounds full = Due.made("r6;p1s;p1s;p1s;p1s;p1s;p1s");
        Due.is("however many rounds there are", full.fewest(1, -1), 2);
    }

    /** Rows of PLANS are tried in their order here, so that the first is found by looking alone. */
    private static void promise11First() {
        for (int ring = 3; ring <= 8; ring++) {
            LoopRounds x = Due.made("r" + (char) ('0' + ring) + ";p1s");
            int[] row = new int[3];
            for (int v = 1; v <= 60; v++) {
                int length = firstRow(ring, v, row);
                if (length < 0) {
                    int told = x.fewest(v, -1);
                    Due.holds("more than three from " + ring + " to " + v, told == -9 || told > 3);
                    continue;
                }
                Due.is("fewest from " + ring + " to " + v, x.fewest(v, -1), length);
                for (int k = 0; k < 4; k++) {
                    Due.is("plan " + k + " from " + ring + " to " + v, x.fewest(v, k), k < length ? row[k] : -9);
                }
            }
        }
    }

    private static int firstRow(int from, int to, int[] row) {
        for (int length = 0; length <= 3; length++) {
            if (reaches(from, to, 0, length, row)) {
                return length;
            }
        }
        return -1;
    }

    private static boolean reaches(int from, int to, int done, int length, int[] row) {
        if (done == length) {
            return from == to;
        }
        for (int plan = 0; plan < 30; plan++) {
            int made = byPlan(from, plan);
            row[done] = plan;
            if (made > 0 && reaches(made, to, done + 1, length, row)) {
                return true;
            }
        }
        return false;
    }

    /** Works a PLAN loop by loop: how many it makes, or 0. */
    private static int byPlan(int below, int plan) {
        String signs = plan < 5 ? "sidck".substring(plan, plan + 1)
            : "" + "sidck".charAt((plan - 5) / 5) + "sidck".charAt((plan - 5) % 5);
        int used = 0;
        int made = 0;
        for (int times = 0; times < 60 && used < below; times++) {
            for (char sign : signs.toCharArray()) {
                used += sign == 'd' ? 2 : sign == 'c' ? 0 : 1;
                made += sign == 'i' ? 2 : sign == 'k' ? 0 : 1;
            }
        }
        return used == below && made <= 60 ? made : 0;
    }

    private static void promise11Refusals() {
        LoopRounds none = new LoopRounds();
        Due.is("no piece", none.fewest(60, 9), -3);
        Due.is("no piece", none.fewest(1, -1), -3);
        Due.is("outside ahead of no piece", none.fewest(0, 0), -2);
        Due.is("outside ahead of no piece", none.fewest(1, 10), -2);
        LoopRounds x = Due.made("r6;p1i");
        Due.unchanging(x, "v 0", y -> y.fewest(0, 0), -2);
        Due.unchanging(x, "v 61", y -> y.fewest(61, 0), -2);
        Due.unchanging(x, "k -2", y -> y.fewest(1, -2), -2);
        Due.unchanging(x, "k 10", y -> y.fewest(1, 10), -2);
        Due.unchanging(x, "k 9", y -> y.fewest(1, 9), -9);
        Due.unchanging(x, "far off", y -> y.fewest(Integer.MAX_VALUE, 0), -2);
        Due.unchanging(x, "far below", y -> y.fewest(Integer.MIN_VALUE, -1), -2);
    }

    private static void promise12Ways() {
        LoopRounds x = Due.made("r6;p1i");
        long[] toTwelve = {1, 9, 115, 1775, 29978, 528606};
        long[] toOne = {0, 0, 0, 36, 1160, 26492};
        for (int n = 0; n <= 5; n++) {
            Due.is("ways(" + n + ", 12)", x.ways(n, 12), toTwelve[n]);
            Due.is("ways(" + n + ", 1)", x.ways(n, 1), toOne[n]);
        }
        x.ravel(1);
        Due.is("from the ring", x.ways(0, 6), 1);
        Due.is("from the ring", x.ways(0, 12), 0);
        Due.is("put on", Due.puton(x, 0, 1, 1), 12);
        Due.is("from twelve again", x.ways(2, 12), 115);
        LoopRounds one = Due.made("r3;p1dk");
        Due.is("from one", one.ways(0, 1), 1);
        Due.is("from one, kc and ck", one.ways(1, 1), counted(1, 1, 1));
        LoopRounds sixty = Due.made("r6;p1iccc;p1i");
        Due.is("from sixty", sixty.ways(0, 60), 1);
        Due.is("from sixty to thirty", sixty.ways(1, 30), counted(60, 1, 30));
        Due.is("from sixty to sixty", sixty.ways(3, 60), counted(60, 3, 60));
        LoopRounds none = new LoopRounds();
        Due.is("no piece", none.ways(0, 60), LoopRounds.LOST);
        Due.unchanging(x, "n -1", y -> y.ways(-1, 12), LoopRounds.LOST);
        Due.unchanging(x, "n 6", y -> y.ways(6, 12), LoopRounds.LOST);
        Due.unchanging(x, "v 0", y -> y.ways(0, 0), LoopRounds.LOST);
        Due.unchanging(x, "v 61", y -> y.ways(0, 61), LoopRounds.LOST);
        Due.raise(x, 4);
        x.ways(9, 9);
        Due.is("ways names no fault", x.fault(), 4);
    }

    private static void promise12All() {
        for (int ring = 3; ring <= 8; ring++) {
            LoopRounds x = Due.made("r" + (char) ('0' + ring) + ";p1s;p1s;p1s;p1s;p1s;p1s");
            for (int v = 1; v <= 60; v++) {
                for (int n = 0; n <= 3; n++) {
                    Due.is("ways from " + ring + " by " + n + " to " + v, x.ways(n, v), counted(ring, n, v));
                }
            }
        }
    }

    private static long counted(int from, int n, int to) {
        if (n == 0) {
            return from == to ? 1 : 0;
        }
        long ways = 0;
        for (int plan = 5; plan < 30; plan++) {
            int made = byPlan(from, plan);
            ways += made > 0 ? counted(made, n - 1, to) : 0;
        }
        return ways;
    }

    private static void promise13Bare() {
        LoopRounds x = Due.made("r8;p1sk;p1ic;p1d");
        Due.is("half of the ring", x.bare(0), 4);
        Due.is("none", x.bare(1), 0);
        Due.is("d uses all", x.bare(2), 0);
        Due.is("all of the last", x.bare(3), 6);
        Due.unchanging(x, "bare(4)", y -> y.bare(4), -1);
        Due.unchanging(x, "bare(-1)", y -> y.bare(-1), -1);
        Due.is("ravel", x.ravel(2), 1);
        Due.is("all of the last", x.bare(1), 4);
        Due.is("put on", Due.puton(x, 0, 1, 4, 0, 4, 4), 1);
        Due.is("three of four", x.bare(1), 3);
        Due.is("ravel", x.ravel(2), 0);
        Due.is("the ring alone", x.bare(0), 8);
        Due.is("no piece", new LoopRounds().bare(0), -1);
    }
}
