/** Promises 1 to 7: a new object, and the piece. */
public final class PieceTest {
    private static final String FOUR = "r6;p1i;b2si;t1sd;p3sk";

    public static void main(String[] args) {
        promise1NewObject();
        promise2FirstFault();
        promise2NotOut();
        promise2Taken();
        promise2Refusals();
        promise3OfRound();
        promise3Curl();
        promise4Loops();
        promise5Sign();
        promise6Loop();
        promise6Roots();
        promise7Spun();
        Due.end();
    }

    private static void promise1NewObject() {
        LoopRounds x = new LoopRounds();
        for (int what = 0; what < 4; what++) {
            Due.is("new many", x.many(what), 0);
        }
        for (int k = 0; k < 4; k++) {
            Due.is("new lose", x.lose(k), 0);
            Due.is("new cell", x.cell(k, 0, 0), LoopRounds.LOST);
            Due.is("new cell's fault", x.fault(), 1);
        }
        Due.is("new rings", x.rings(), -3);
        Due.is("new loops(0)", x.loops(0), -1);
        Due.is("new bare(0)", x.bare(0), -1);
        Due.is("new odds", x.odds(0, 0), LoopRounds.LOST);
        Due.is("new ways", x.ways(0, 1), LoopRounds.LOST);
        Due.is("new fewest", x.fewest(1, -1), -3);
        Due.is("new trace", x.trace(), 0);
        Due.is("new fault", new LoopRounds().fault(), 0);
        LoopRounds other = Due.made(FOUR);
        Due.is("another object's many", x.many(0), 0);
        Due.is("its many", other.many(0), 4);
    }

    private static void promise2FirstFault() {
        String[] texts = {
            "", "r", "x", "R6", "6", ";", "r2", "r9", "r6", "r3", "r66", "r6s", "r6;", "r6;;", "r6;x", "r6;p", "r6;p0", "r6;ps",
            "r6;p1", "r6;p1;", "r6;p1p", "r6;p1z", "r6;p12", "r6;p1s;", "r6;p1s;p1", "r6;p1sp", "r6;p1s1", "r6;p1ssssss",
            "r6;p1sssss;", "r6;p1s;p1s;p1s;p1s;p1s;p1s;", "r6;p1s;p1s;p1s;p1s;p1s;p1s;p1s", "r6;p1s;p1s;p1s;p1s;p1s;p1"};
        int[] places = {
            0, 1, 0, 0, 0, 0, 1, 1, 2, 2, 2, 2, 3, 3, 3, 4, 4, 4,
            5, 5, 5, 5, 5, 7, 9, 6, 6, 10,
            11, 26, 26, 25};
        LoopRounds x = Due.made("r5;b2s");
        for (int t = 0; t < texts.length; t++) {
            Due.is("text " + texts[t], Due.piece(x, texts[t]), -100 - places[t]);
            Due.is("many(1) after " + texts[t], x.many(1), 5);
        }
        Due.row(x, 0, 2, 'r', '6', ';', 'p', '1', 's' + 256);
        Due.is("codes are whole ints", x.piece(0, 2, 0, 6), -105);
        Due.row(x, 0, 2, Integer.MIN_VALUE);
        Due.is("a code far below", x.piece(0, 2, 0, 1), -100);
        Due.row(x, 0, 2, 'r', Integer.MIN_VALUE, ';');
        Due.is("a digit far below", x.piece(0, 2, 0, 3), -101);
        Due.row(x, 0, 0, 'r', '6', ';', 'p', '1', 's' + 256);
        Due.is("bytes are cut", x.piece(0, 0, 0, 6), 1);
    }

    private static void promise2NotOut() {
        LoopRounds x = Due.made("r5;b2s");
        Due.is("five used, six there", Due.piece(x, "r6;p1sidck"), -201);
        Due.is("none used", Due.piece(x, "r6;p1c"), -201);
        Due.is("none made", Due.piece(x, "r6;p1k"), -201);
        Due.is("too many used", Due.piece(x, "r3;p1dd"), -201);
        Due.is("48 are made, then 96", Due.piece(x, "r6;p1i;p1i;p1i;p1i"), -204);
        Due.is("64 loops", Due.piece(x, "r8;p1i;p1i;p1i"), -203);
        Due.is("the first that does not", Due.piece(x, "r8;p1ssd;p1c;p1k"), -202);
        Due.is("a text's fault is told first", Due.piece(x, "r8;p1c;p1"), -109);
        Due.is("many(0) is as it was", x.many(0), 1);
        Due.is("63 loops", Due.piece(x, "r7;p1ic;p1ic"), -202);
        Due.is("60 loops", Due.piece(x, "r6;p1iccc;p1i"), 2);
        Due.is("60 of them", x.loops(2), 60);
        Due.is("1 loop", Due.piece(x, "r3;p1dk;p1c"), -202);
        Due.is("1 loop", Due.piece(x, "r3;p1dk"), 1);
        Due.is("1 of it", x.loops(1), 1);
    }

    private static void promise2Taken() {
        LoopRounds x = new LoopRounds();
        Due.is("six rounds of five", Due.piece(x, "r5;p1sssss;b9kiksi;t9sssss;p5iskds;b1cccsc;t2sssss"), -204);
        Due.is("six rounds of five", Due.piece(x, "r5;p1sssss;b9kiksi;t9sssss;p5iskss;b1kiiks;t2sssss"), 6);
        Due.is("six", x.many(0), 6);
        Due.is("reading", x.reading(1, 5), 0);
        Due.is("tell", x.tell(1), 1);
        int trace = x.trace();
        Due.is("a fault keeps readings", Due.piece(x, "r9"), -101);
        Due.is("readings", x.many(3), 1);
        Due.is("not out keeps readings", Due.piece(x, "r6;p1k"), -201);
        Due.is("readings", x.many(3), 1);
        Due.is("another", Due.piece(x, "r3;t1s"), 1);
        Due.is("no readings", x.many(3), 0);
        Due.is("trace is kept", x.trace(), trace);
        Due.is("one round", x.many(0), 1);
        Due.is("no second round", x.loops(2), -1);
        Due.is("ring", x.loops(0), 3);
        Due.text(x, 3, 1, "..r4;p2i..");
        Due.is("in the middle, as shorts", x.piece(3, 1, 2, 6), 1);
        Due.is("its ring", x.loops(0), 4);
        Due.is("places are the text's own", x.piece(3, 1, 2, 7), -106);
        Due.is("from another place", x.piece(3, 1, 3, 3), -100);
        Due.is("none at the end", x.piece(3, 1, 10, 0), -100);
        Due.text(x, 3, 2, "r7;b3s");
        Due.is("as ints", x.piece(3, 2, 0, 6), 1);
        Due.is("its ring", x.many(2), 14);
    }

    private static void promise2Refusals() {
        LoopRounds x = Due.made(FOUR);
        Due.text(x, 1, 1, "r6;p1s");
        Due.faulting(x, "sheet -1", y -> y.piece(-1, 0, 0, 6), -1, 0);
        Due.faulting(x, "sheet 4, lane 3", y -> y.piece(4, 3, 0, 6), -1, 0);
        Due.faulting(x, "lane -1 of nothing", y -> y.piece(2, -1, 0, 6), -2, 0);
        Due.faulting(x, "lane 3", y -> y.piece(1, 3, 0, -6), -2, 0);
        Due.faulting(x, "unlike lane", y -> y.piece(1, 0, -1, -1), -12, 2);
        Due.faulting(x, "unlike lane", y -> y.piece(1, 2, 0, 6), -12, 2);
        Due.faulting(x, "nothing", y -> y.piece(2, 0, -1, -1), -11, 1);
        Due.faulting(x, "n -1", y -> y.piece(1, 1, -1, -1), -14, 4);
        Due.faulting(x, "n far below", y -> y.piece(1, 1, 0, Integer.MIN_VALUE), -14, 4);
        Due.faulting(x, "i -1", y -> y.piece(1, 1, -1, 6), -13, 3);
        Due.faulting(x, "i -1, none taken", y -> y.piece(1, 1, -1, 0), -13, 3);
        Due.faulting(x, "i 7, none taken", y -> y.piece(1, 1, 7, 0), -13, 3);
        Due.faulting(x, "one too many", y -> y.piece(1, 1, 0, 7), -13, 3);
        Due.faulting(x, "one too far", y -> y.piece(1, 1, 1, 6), -13, 3);
        Due.faulting(x, "far too many", y -> y.piece(1, 1, 6, Integer.MAX_VALUE), -13, 3);
        Due.faulting(x, "far too far", y -> y.piece(1, 1, Integer.MAX_VALUE, Integer.MAX_VALUE), -13, 3);
        Due.faulting(x, "far below", y -> y.piece(1, 1, Integer.MIN_VALUE, 1), -13, 3);
        Due.faulting(x, "first fault", y -> y.piece(1, 1, 1, 5), -100, 0);
        Due.faulting(x, "none taken", y -> y.piece(1, 1, 6, 0), -100, 0);
        Due.raise(x, 4);
        Due.is("taken", x.piece(1, 1, 0, 6), 1);
        Due.is("taken: no fault", x.fault(), 0);
    }

    private static void promise3OfRound() {
        LoopRounds x = Due.made("r6;p1i;b2si;t4sd;p3sk");
        int[][] due = {
            {0, 1, 1, 1, 12, 6, 12, 1, 1},
            {1, 2, 3, 2, 18, 6, 54, 4, 1},
            {2, 4, 8, 2, 12, 6, 96, 12, 1},
            {0, 3, 3, 2, 6, 6, 18, 15, -1}};
        for (int r = 1; r <= 4; r++) {
            for (int what = 0; what < 9; what++) {
                Due.is("ofRound(" + r + ", " + what + ")", x.ofRound(r, what), due[r - 1][what]);
            }
        }
        Due.unchanging(x, "ring", y -> y.ofRound(0, 0), -1);
        Due.unchanging(x, "ring, what 9", y -> y.ofRound(0, 9), -1);
        Due.unchanging(x, "round -1", y -> y.ofRound(-1, 0), -1);
        Due.unchanging(x, "round 5", y -> y.ofRound(5, 0), -1);
        Due.unchanging(x, "what -1", y -> y.ofRound(1, -1), -2);
        Due.unchanging(x, "what 9", y -> y.ofRound(4, 9), -2);
        Due.is("ravel", x.ravel(1), 3);
        Due.is("a ravelled round", x.ofRound(4, 4), -1);
        LoopRounds widest = Due.made("r6;p1iccc;t9i");
        Due.is("the most GIRTH", widest.ofRound(2, 6), 1080);
        Due.is("widest", widest.ofRound(2, 2), 18);
        Due.is("widest BRUSHED", Due.made("r6;b9s").ofRound(1, 2), 10);
        Due.is("no round in a new object", new LoopRounds().ofRound(1, 0), -1);
    }

    private static void promise3Curl() {
        Due.is("flat", Due.made("r6;p1s").ofRound(1, 8), 0);
        Due.is("ruffled by one", Due.made("r7;p1s").ofRound(1, 8), 1);
        Due.is("cupped by one", Due.made("r5;p1s").ofRound(1, 8), -1);
        LoopRounds disc = Due.made("r6;p2s;p2i;p2si;p2ssi");
        for (int r = 1; r <= 4; r++) {
            Due.is("a disc is flat in round " + r, disc.ofRound(r, 8), 0);
        }
        Due.is("spun", disc.spun(1, 3), 2);
        Due.is("flat by itself", disc.ofRound(1, 8), 0);
        Due.is("cupped by what is below", disc.ofRound(4, 8), -1);
        Due.is("out", disc.ofRound(4, 7), 9);
    }

    private static void promise4Loops() {
        LoopRounds x = Due.made(FOUR);
        int[] due = {6, 12, 18, 12, 6, -1, -1, -1};
        for (int r = 0; r < due.length; r++) {
            Due.is("loops(" + r + ")", x.loops(r), due[r]);
        }
        Due.unchanging(x, "loops(-1)", y -> y.loops(-1), -1);
        Due.is("loops far off", x.loops(Integer.MAX_VALUE), -1);
        Due.is("loops far below", x.loops(Integer.MIN_VALUE), -1);
        x.ravel(4);
        Due.is("the ring is left", x.loops(0), 6);
        Due.is("no round is left", x.loops(1), -1);
    }

    private static void promise5Sign() {
        LoopRounds x = Due.made("r5;b1kcdis;p1cs");
        int[] due = {4, 3, 2, 1, 0};
        for (int i = 0; i < 5; i++) {
            Due.is("sign(1, " + i + ")", x.sign(1, i), due[i]);
        }
        Due.is("sign(2, 0)", x.sign(2, 0), 3);
        Due.is("sign(2, 1)", x.sign(2, 1), 0);
        Due.unchanging(x, "place 5", y -> y.sign(1, 5), -1);
        Due.unchanging(x, "place 2 of two", y -> y.sign(2, 2), -1);
        Due.unchanging(x, "place -1", y -> y.sign(1, -1), -1);
        Due.unchanging(x, "ring", y -> y.sign(0, 0), -1);
        Due.unchanging(x, "round 3", y -> y.sign(3, 0), -1);
        x.ravel(1);
        Due.is("a ravelled round", x.sign(2, 0), -1);
    }

    private static void promise6Loop() {
        // Upon 5 loops: s in 0, i twice in 1, d in 2 and 3, c in none, 4 left out.
        LoopRounds x = Due.made("r5;p1sidck;p1s");
        int[] signs = {0, 1, 1, 2, 3};
        int[] first = {0, 1, 1, 2, -9};
        int[] last = {0, 1, 1, 3, -9};
        int[] roots = {1, 2, 2, 12, 0};
        for (int k = 0; k < 5; k++) {
            Due.is("sign of " + k, x.loop(1, k, 0), signs[k]);
            Due.is("first of " + k, x.loop(1, k, 1), first[k]);
            Due.is("last of " + k, x.loop(1, k, 2), last[k]);
            Due.is("above of " + k, x.loop(1, k, 3), 1);
            Due.is("roots of " + k, x.loop(1, k, 4), roots[k]);
            Due.is("roots above " + k, x.loop(2, k, 4), roots[k]);
            Due.is("none above the last", x.loop(2, k, 3), 0);
        }
        Due.unchanging(x, "loop 5", y -> y.loop(1, 5, 0), -1);
        Due.unchanging(x, "loop -1", y -> y.loop(1, -1, 9), -1);
        Due.unchanging(x, "ring", y -> y.loop(0, 0, 4), -1);
        Due.unchanging(x, "round 3", y -> y.loop(3, 0, 0), -1);
        Due.unchanging(x, "what 5", y -> y.loop(1, 0, 5), -2);
        Due.unchanging(x, "what -1", y -> y.loop(1, 0, -1), -2);
        Due.is("ravel", x.ravel(1), 1);
        Due.is("none above, as it is ravelled", x.loop(1, 0, 3), 0);
        Due.is("two into each", Due.puton(x, 0, 1, 1), 10);
        Due.is("two above", x.loop(1, 4, 3), 2);
        Due.is("a loop into none has no roots", x.loop(2, 9, 4), 0);
        Due.is("but stands in that loop", x.loop(2, 9, 1), 4);
        x.ravel(1);
        Due.is("left out at times", Due.puton(x, 0, 1, 4, 0, 0, 0, 4), 3);
        Due.is("left out", x.loop(1, 0, 3), 0);
        Due.is("worked into", x.loop(1, 1, 3), 1);
        Due.is("left out", x.loop(1, 4, 3), 0);
    }

    private static void promise6Roots() {
        LoopRounds x = Due.made("r8;p1d;p1d;p1d;p1i");
        Due.is("two roots", x.loop(1, 3, 4), 128 + 64);
        Due.is("four roots", x.loop(2, 1, 4), 128 + 64 + 32 + 16);
        Due.is("all roots", x.loop(3, 0, 4), 255);
        Due.is("all roots", x.loop(4, 1, 4), 255);
        LoopRounds full = Due.made("r6;p1iccc;p1i");
        Due.is("the sixtieth", full.loop(2, 59, 1), 29);
        Due.is("its roots: c had none", full.loop(2, 59, 4), 0);
        Due.is("roots of the 51st", full.loop(2, 50, 4), 32);
        Due.is("by again and again", full.loop(1, 26, 0), 1);
        Due.is("upon sixty", Due.puton(full, 0, 1, 2), 30);
        Due.is("in the sixtieth", full.loop(3, 29, 2), 59);
        Due.is("the sixtieth has one above", full.loop(2, 59, 3), 1);
        LoopRounds six = Due.made("r3;p1s;p1s;p1s;p1s;p1s;p1i");
        Due.is("the sixth round's last", six.loop(6, 5, 1), 2);
        Due.is("its roots", six.loop(6, 5, 4), 4);
        Due.is("above the fifth's", six.loop(5, 2, 3), 2);
        Due.is("ravel", six.ravel(1), 5);
        Due.is("where a loop with roots was", Due.puton(six, 0, 1, 0, 3), 6);
        Due.is("one has none", six.loop(6, 5, 4), 0);
        Due.is("one has none", six.loop(6, 1, 4), 0);
    }

    private static void promise7Spun() {
        LoopRounds x = Due.made(FOUR);
        Due.is("what it was", x.spun(2, 9), 2);
        Due.is("SPUN", x.ofRound(2, 1), 9);
        Due.is("WIDE", x.ofRound(2, 2), 10);
        Due.is("GIRTH", x.ofRound(2, 6), 180);
        Due.is("OUT of it", x.ofRound(2, 7), 11);
        Due.is("OUT of the next", x.ofRound(3, 7), 13);
        Due.is("OUT below", x.ofRound(1, 7), 1);
        Due.is("what it was", x.spun(2, 1), 9);
        Due.unchanging(x, "0", y -> y.spun(1, 0), -2);
        Due.unchanging(x, "10", y -> y.spun(1, 10), -2);
        Due.unchanging(x, "ring", y -> y.spun(0, 0), -1);
        Due.unchanging(x, "round 5", y -> y.spun(5, 10), -1);
        Due.unchanging(x, "round -1", y -> y.spun(-1, 1), -1);
    }
}
