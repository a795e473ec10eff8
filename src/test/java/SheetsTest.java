/** Promises 20 to 30: sheets, and parts told by kinds of yarn. */
public final class SheetsTest {
    private static final long LOST = LoopRounds.LOST;

    public static void main(String[] args) {
        promise20Sheet();
        promise21Lose();
        promise22Put();
        promise23Cell();
        promise24Copy();
        promise25Tell();
        promise26Tug();
        promise27As();
        promise28Trace();
        promise29Fault();
        promise30Many();
        Due.end();
    }

    private static void promise20Sheet() {
        LoopRounds x = Due.made("r6;p1i");
        Due.row(x, 1, 1, 5, 6);
        for (int lane = 0; lane < 3; lane++) {
            Due.is("most cells", x.sheet(2, lane, 60), 1);
            Due.is("0 at first", x.cell(2, 59, lane), 0);
            Due.is("no more", x.cell(2, 60, lane), LOST);
            Due.is("put", x.put(2, 59, 7), 1);
            Due.is("a new row", x.sheet(2, lane, 60), 1);
            Due.is("0 again", x.cell(2, 59, lane), 0);
            Due.is("no cells", x.sheet(2, lane, 0), 1);
            Due.is("no cell", x.cell(2, 0, lane), LOST);
            Due.is("no cell: INDEX", x.fault(), 3);
        }
        Due.faulting(x, "sheet 4", y -> y.sheet(4, 3, 61), -1, 0);
        Due.faulting(x, "sheet -1", y -> y.sheet(-1, 0, -1), -1, 0);
        Due.faulting(x, "lane 3", y -> y.sheet(1, 3, -1), -2, 0);
        Due.faulting(x, "lane -1", y -> y.sheet(1, -1, 1), -2, 0);
        Due.faulting(x, "61 cells", y -> y.sheet(1, 0, 61), -2, 0);
        Due.faulting(x, "-1 cells", y -> y.sheet(1, 0, -1), -14, 4);
        Due.faulting(x, "far fewer", y -> y.sheet(1, 2, Integer.MIN_VALUE), -14, 4);
        Due.is("its row is as it was", x.cell(1, 1, 1), 6);
        Due.raise(x, 4);
        Due.is("a shorter row", x.sheet(1, 2, 1), 1);
        Due.is("sheet: no fault", x.fault(), 0);
        Due.is("no more of it", x.cell(1, 1, 2), LOST);
    }

    private static void promise21Lose() {
        LoopRounds x = new LoopRounds();
        Due.is("nothing", x.lose(3), 0);
        x.sheet(3, 0, 0);
        Due.is("an empty row is a row", x.lose(3), 1);
        Due.is("nothing is left", x.lose(3), 0);
        Due.is("put: NULL", x.put(3, 0, 0), -11);
        Due.is("sheet 4", x.lose(4), -1);
        Due.is("sheet -1", x.lose(-1), -1);
        Due.is("lose names no fault", x.fault(), 1);
        Due.row(x, 0, 2, 8);
        x.lose(0);
        x.sheet(0, 2, 1);
        Due.is("0 at first", x.cell(0, 0, 2), 0);
    }

    private static void promise22Put() {
        LoopRounds x = Due.made("r6;p1i");
        int[] values = {0, 1, -1, 127, 128, 255, 256, -129, 32767, 32768, 65535, 65536, -32769, Integer.MAX_VALUE, Integer.MIN_VALUE};
        for (int v : values) {
            for (int lane = 0; lane < 3; lane++) {
                x.sheet(1, lane, 2);
                Due.is("put", x.put(1, 1, v), 1);
                long cut = lane == 0 ? (byte) v : lane == 1 ? (short) v : v;
                Due.is("put " + v + " in lane " + lane, x.cell(1, 1, lane), cut);
                Due.is("the other cell", x.cell(1, 0, lane), 0);
            }
        }
        Due.faulting(x, "sheet 4", y -> y.put(4, 99, 0), -1, 0);
        Due.faulting(x, "sheet -1", y -> y.put(-1, 0, 0), -1, 0);
        Due.faulting(x, "nothing", y -> y.put(2, 99, 0), -11, 1);
        Due.faulting(x, "i 2", y -> y.put(1, 2, 9), -13, 3);
        Due.faulting(x, "i -1", y -> y.put(1, -1, 9), -13, 3);
        Due.faulting(x, "far off", y -> y.put(1, Integer.MAX_VALUE, 9), -13, 3);
        Due.faulting(x, "far below", y -> y.put(1, Integer.MIN_VALUE, 9), -13, 3);
        Due.raise(x, 4);
        Due.is("put", x.put(1, 0, 5), 1);
        Due.is("put: no fault", x.fault(), 0);
    }

    private static void promise23Cell() {
        LoopRounds x = Due.made("r6;p1i");
        Due.row(x, 1, 1, 5, -6);
        Due.is("cell", x.cell(1, 1, 1), -6);
        Due.faulting(x, "sheet 4", y -> y.cell(4, 0, 0), LOST, 0);
        Due.faulting(x, "sheet -1", y -> y.cell(-1, 0, 0), LOST, 0);
        Due.faulting(x, "lane 3", y -> y.cell(1, 9, 3), LOST, 0);
        Due.faulting(x, "lane -1 of nothing", y -> y.cell(2, 9, -1), LOST, 0);
        Due.faulting(x, "unlike lane", y -> y.cell(1, 9, 0), LOST, 2);
        Due.faulting(x, "unlike lane", y -> y.cell(1, 0, 2), LOST, 2);
        Due.faulting(x, "nothing", y -> y.cell(2, 9, 0), LOST, 1);
        Due.faulting(x, "i 2", y -> y.cell(1, 2, 1), LOST, 3);
        Due.faulting(x, "i -1", y -> y.cell(1, -1, 1), LOST, 3);
        Due.faulting(x, "far off", y -> y.cell(1, Integer.MAX_VALUE, 1), LOST, 3);
        Due.faulting(x, "far below", y -> y.cell(1, Integer.MIN_VALUE, 1), LOST, 3);
        Due.raise(x, 4);
        x.cell(1, 0, 1);
        Due.is("cell: no fault", x.fault(), 0);
    }

    private static void promise24Copy() {
        LoopRounds x = Due.made("r6;p1i");
        Due.row(x, 1, 2, 1, 2, 3, 4, 5);
        Due.row(x, 2, 2, 9, 9, 9);
        Due.is("to another", x.copy(1, 3, 2, 1, 2), 2);
        Due.is("what was copied", x.cell(2, 1, 2) * 10 + x.cell(2, 2, 2), 45);
        Due.is("what was not", x.cell(2, 0, 2), 9);
        Due.is("the same, up", x.copy(1, 0, 1, 1, 4), 4);
        int[] up = {1, 1, 2, 3, 4};
        for (int i = 0; i < 5; i++) {
            Due.is("up " + i, x.cell(1, i, 2), up[i]);
        }
        Due.is("the same, down", x.copy(1, 1, 1, 0, 4), 4);
        int[] down = {1, 2, 3, 4, 4};
        for (int i = 0; i < 5; i++) {
            Due.is("down " + i, x.cell(1, i, 2), down[i]);
        }
        Due.unchanging(x, "none, at both ends", y -> y.copy(1, 5, 2, 3, 0), 0);
        x.sheet(3, 1, 5);
        copyFaults(x);
        Due.raise(x, 4);
        Due.is("all", x.copy(2, 0, 1, 2, 3), 3);
        Due.is("copy: no fault", x.fault(), 0);
    }

    private static void copyFaults(LoopRounds x) {
        x.lose(3);
        Due.faulting(x, "sheet 4", y -> y.copy(4, 0, 3, 0, 1), -1, 0);
        Due.faulting(x, "other sheet 4", y -> y.copy(3, 0, 4, 0, 1), -1, 0);
        Due.faulting(x, "sheet -1", y -> y.copy(-1, 0, 1, 0, 1), -1, 0);
        Due.faulting(x, "other sheet -1", y -> y.copy(1, 0, -1, 0, 1), -1, 0);
        Due.faulting(x, "nothing", y -> y.copy(3, -1, 1, 0, 1), -11, 1);
        Due.faulting(x, "other nothing", y -> y.copy(1, -1, 3, 0, 1), -11, 1);
        Due.faulting(x, "unlike lanes", y -> y.copy(0, -1, 1, 0, -1), -12, 2);
        Due.faulting(x, "n -1", y -> y.copy(1, 0, 2, 0, -1), -13, 3);
        Due.faulting(x, "i -1", y -> y.copy(1, -1, 2, 0, 0), -13, 3);
        Due.faulting(x, "j -1", y -> y.copy(1, 0, 2, -1, 0), -13, 3);
        Due.faulting(x, "i 6, none", y -> y.copy(1, 6, 2, 0, 0), -13, 3);
        Due.faulting(x, "j 4, none", y -> y.copy(1, 0, 2, 4, 0), -13, 3);
        Due.faulting(x, "i beyond", y -> y.copy(1, 4, 2, 0, 2), -13, 3);
        Due.faulting(x, "j beyond", y -> y.copy(1, 0, 2, 2, 2), -13, 3);
        Due.faulting(x, "far beyond", y -> y.copy(1, 1, 2, 1, Integer.MAX_VALUE), -13, 3);
        Due.faulting(x, "far off", y -> y.copy(1, Integer.MAX_VALUE, 2, Integer.MAX_VALUE, Integer.MAX_VALUE), -13, 3);
        Due.faulting(x, "far below", y -> y.copy(1, 0, 2, Integer.MIN_VALUE, Integer.MIN_VALUE), -13, 3);
    }

    private static void promise25Tell() {
        LoopRounds x = Due.made("r6;p3s;b4s;t5s");
        Due.is("PLAIN", x.tell(1), 3);
        Due.is("its body", x.trace(), 1);
        Due.is("BRUSHED", x.tell(2), 104);
        Due.is("its bodies", x.trace(), traced(1, 2, 1));
        Due.is("TWINED", x.tell(3), 110);
        Due.is("its bodies", x.trace(), traced(1, 2, 1, 3, 2, 1, 1));
        Due.unchanging(x, "ring", y -> y.tell(0), -1);
        Due.unchanging(x, "round 4", y -> y.tell(4), -1);
        Due.unchanging(x, "round -1", y -> y.tell(-1), -1);
        x.spun(3, 9);
        Due.is("by what it is spun", x.tell(3), 118);
        Due.is("no piece", new LoopRounds().tell(1), -1);
    }

    private static int traced(int... bodies) {
        int trace = 0;
        for (int body : bodies) {
            trace = 31 * trace + body;
        }
        return trace;
    }

    private static void promise26Tug() {
        LoopRounds x = Due.made("r6;p3ss;b4scs;t5s");
        Due.is("PLAIN", x.tug(1), 2);
        Due.is("the lent body", x.trace(), 4);
        Due.is("BRUSHED", x.tug(2), 3);
        Due.is("the lent body", x.trace(), traced(4, 4));
        Due.is("TWINED", x.tug(3), 50);
        Due.is("its own body", x.trace(), traced(4, 4, 5));
        Due.unchanging(x, "ring", y -> y.tug(0), -1);
        Due.unchanging(x, "round 4", y -> y.tug(4), -1);
        Due.is("no piece", new LoopRounds().tug(1), -1);
    }

    private static void promise27As() {
        LoopRounds x = Due.made("r6;p3s;b4s;t5s");
        for (int r = 1; r <= 3; r++) {
            for (int kind = 0; kind < 3; kind++) {
                boolean is = kind < r;
                int round = r;
                int taken = kind;
                Due.faulting(x, "as(" + r + ", " + kind + ")", y -> y.as(round, taken), is ? 1 : -12, is ? 0 : 2);
            }
        }
        Due.faulting(x, "ring", y -> y.as(0, 3), -1, 0);
        Due.faulting(x, "round 4", y -> y.as(4, 0), -1, 0);
        Due.faulting(x, "kind 3", y -> y.as(1, 3), -2, 0);
        Due.faulting(x, "kind -1", y -> y.as(1, -1), -2, 0);
        Due.is("no piece", new LoopRounds().as(1, 0), -1);
    }

    private static void promise28Trace() {
        LoopRounds x = Due.made("r6;t5s");
        Due.is("0 at first", x.trace(), 0);
        int trace = 0;
        for (int time = 0; time < 40; time++) {
            x.tell(1);
            for (int body : new int[] {3, 2, 1, 1}) {
                trace = 31 * trace + body;
            }
            x.tug(1);
            trace = 31 * trace + 5;
            Due.is("trace, it wraps", x.trace(), trace);
        }
        Due.holds("a trace that has wrapped is not small", Math.abs((long) trace) > 1000);
        Due.is("trace is kept", x.trace(), trace);
        x.ravel(1);
        Due.is("trace is kept by ravel", x.trace(), trace);
    }

    private static void promise29Fault() {
        LoopRounds x = new LoopRounds();
        Due.is("0 ahead of any", x.fault(), 0);
        Due.is("put", x.put(0, 0, 0), -11);
        x.lose(0);
        x.many(0);
        x.many(9);
        x.trace();
        x.loops(0);
        x.ofRound(1, 0);
        x.sign(1, 0);
        x.loop(1, 0, 0);
        x.spun(1, 1);
        x.ravel(0);
        x.fewest(1, 1);
        x.ways(1, 1);
        x.bare(0);
        x.reading(1, 1);
        x.back(0);
        x.rings();
        x.kinds(1);
        x.signings(1, 1);
        x.odds(0, 0);
        x.tell(1);
        x.tug(1);
        Due.is("calls that name none leave it", x.fault(), 1);
        x.as(1, 0);
        Due.is("as names one: refused", x.fault(), 0);
    }

    private static void promise30Many() {
        LoopRounds x = Due.made("r6;p1i;b2si");
        Due.is("rounds", x.many(0), 2);
        Due.is("loops of the last", x.many(1), 18);
        Due.is("loops of all", x.many(2), 36);
        Due.is("readings", x.many(3), 0);
        x.reading(1, 1);
        x.reading(1, 1);
        Due.is("readings", x.many(3), 2);
        x.ravel(2);
        Due.is("rounds", x.many(0), 0);
        Due.is("loops of the ring", x.many(1), 6);
        Due.is("loops of all", x.many(2), 6);
        Due.is("readings are kept", x.many(3), 2);
        Due.unchanging(x, "-1", y -> y.many(-1), -2);
        Due.unchanging(x, "4", y -> y.many(4), -2);
        Due.is("no piece, 4", new LoopRounds().many(4), -2);
    }
}
