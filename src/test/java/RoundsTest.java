/** Promises 8 to 10: rounds put on, ravelled, and days told. */
public final class RoundsTest {
    public static void main(String[] args) {
        promise8Puton();
        promise8Order();
        promise9Ravel();
        promise10Day();
        promise10FirstWrong();
        promise10Order();
        Due.end();
    }

    private static void promise8Puton() {
        LoopRounds x = Due.made("r6;p1i");
        Due.is("five signs", Due.puton(x, 2, 9, 0, 1, 4, 3, 0), 15);
        Due.is("kind", x.ofRound(2, 0), 2);
        Due.is("SPUN", x.ofRound(2, 1), 9);
        Due.is("signs", x.ofRound(2, 3), 5);
        Due.is("times", x.ofRound(2, 5), 3);
        Due.is("sign", x.sign(2, 3), 3);
        Due.is("how it stands", x.loop(2, 5, 1), 4);
        Due.is("above", x.loop(1, 1, 3), 2);
        Due.is("left out", x.bare(1), 3);
        Due.is("most loops", Due.puton(x, 0, 1, 1, 1, 1), 30);
        Due.is("most loops", Due.puton(x, 1, 1, 1), 60);
        Due.is("61 and more", Due.puton(x, 1, 1, 0, 1), -3);
        Due.is("fewer", Due.puton(x, 1, 1, 2, 2, 4), 24);
        Due.is("six", Due.puton(x, 1, 1, 2), 12);
        Due.is("a seventh", Due.puton(x, 1, 1, 2), -4);
        Due.is("six are there", x.many(0), 6);
        Due.text(x, 3, 0, "  ");
        Due.row(x, 3, 0, 9, 9, 2, 0, 9);
        x.ravel(1);
        Due.is("in the middle, as bytes", x.puton(0, 2, 3, 0, 2, 2), 16);
        Due.is("its first sign", x.sign(6, 0), 2);
        LoopRounds ring = Due.made("r7;p1s");
        ring.ravel(1);
        Due.is("upon the ring", Due.puton(ring, 1, 3, 0), 7);
        Due.is("its girth", ring.ofRound(1, 6), 28);
    }

    private static void promise8Order() {
        LoopRounds none = new LoopRounds();
        Due.raise(none, 4);
        Due.is("kind ahead of no piece", none.puton(3, 1, 9, 9, 9, 9), -2);
        Due.is("refused: no fault", none.fault(), 0);
        Due.is("kind -1", none.puton(-1, 1, 9, 9, 9, 9), -2);
        Due.is("v 0", none.puton(0, 0, 9, 9, 9, 9), -2);
        Due.is("v 10", none.puton(2, 10, 9, 9, 9, 9), -2);
        Due.is("no piece", none.puton(2, 9, 9, 9, 9, 9), -3);
        LoopRounds x = Due.made("r6;p1i");
        Due.row(x, 1, 1, 0, 5, 3, -1, 4);
        Due.faulting(x, "kind 3", y -> y.puton(3, 1, 4, 3, 0, 0), -2, 0);
        Due.faulting(x, "v 10", y -> y.puton(0, 10, 4, 3, 0, 0), -2, 0);
        Due.faulting(x, "sheet 4", y -> y.puton(0, 1, 4, 3, 0, 0), -1, 0);
        Due.faulting(x, "sheet -1", y -> y.puton(0, 1, -1, 0, 0, 1), -1, 0);
        Due.faulting(x, "lane 3", y -> y.puton(0, 1, 1, 3, 0, 1), -2, 0);
        Due.faulting(x, "lane -1", y -> y.puton(0, 1, 1, -1, 0, 1), -2, 0);
        Due.faulting(x, "n 0 of nothing", y -> y.puton(0, 1, 2, 0, 0, 0), -2, 0);
        Due.faulting(x, "n 6", y -> y.puton(0, 1, 1, 0, 0, 6), -2, 0);
        Due.faulting(x, "n -1", y -> y.puton(0, 1, 1, 1, 0, -1), -2, 0);
        Due.faulting(x, "unlike lane", y -> y.puton(0, 1, 1, 2, 9, 1), -12, 2);
        Due.faulting(x, "nothing", y -> y.puton(0, 1, 2, 2, 9, 1), -11, 1);
        Due.faulting(x, "i 5", y -> y.puton(0, 1, 1, 1, 5, 1), -13, 3);
        Due.faulting(x, "i -1", y -> y.puton(0, 1, 1, 1, -1, 1), -13, 3);
        Due.faulting(x, "i 4, two", y -> y.puton(0, 1, 1, 1, 4, 2), -13, 3);
        Due.faulting(x, "far off", y -> y.puton(0, 1, 1, 1, Integer.MAX_VALUE, 5), -13, 3);
        Due.faulting(x, "a cell 5", y -> y.puton(0, 1, 1, 1, 0, 2), -2, 0);
        Due.faulting(x, "a cell -1", y -> y.puton(0, 1, 1, 1, 2, 3), -2, 0);
        Due.faulting(x, "c alone", y -> y.puton(0, 1, 1, 1, 2, 1), -3, 0);
        Due.faulting(x, "k alone", y -> y.puton(0, 1, 1, 1, 4, 1), -3, 0);
        for (int r = 2; r <= 6; r++) {
            Due.raise(x, 4);
            Due.is("s", x.puton(0, 1, 1, 1, 0, 1), 12);
            Due.is("taken: no fault", x.fault(), 0);
        }
        Due.faulting(x, "a cell 5 ahead of full", y -> y.puton(0, 1, 1, 1, 1, 1), -2, 0);
        Due.faulting(x, "full ahead of not out", y -> y.puton(0, 1, 1, 1, 2, 1), -4, 0);
        Due.faulting(x, "full", y -> y.puton(0, 1, 1, 1, 0, 1), -4, 0);
        Due.faulting(x, "index ahead of full", y -> y.puton(0, 1, 1, 1, 5, 1), -13, 3);
    }

    private static void promise9Ravel() {
        LoopRounds none = new LoopRounds();
        Due.is("none of none", none.ravel(0), -3);
        Due.is("one of none", none.ravel(1), -2);
        Due.is("-1 of none", none.ravel(-1), -2);
        LoopRounds x = Due.made("r6;p1i;b2si;t1sd;p3sk");
        Due.unchanging(x, "five of four", y -> y.ravel(5), -2);
        Due.unchanging(x, "-1", y -> y.ravel(-1), -2);
        Due.unchanging(x, "none", y -> y.ravel(0), 4);
        Due.is("two", x.ravel(2), 2);
        Due.is("many", x.many(1), 18);
        Due.is("three of two", x.ravel(3), -2);
        Due.is("the rest", x.ravel(2), 0);
        Due.is("the ring is left", x.many(1), 6);
        Due.is("none", x.ravel(0), 0);
        Due.is("one of none", x.ravel(1), -2);
        Due.raise(x, 4);
        x.ravel(1);
        Due.is("ravel names no fault", x.fault(), 4);
    }

    private static void promise10Day() {
        LoopRounds x = Due.made("r6;p1i;b2si");
        int[] whats = {0, 1, 2, 3, 4, 10, 11, 12, 13, 14, 15, 16};
        int[][] acts = {{}, {0}, {0, 0}, {3, 1, 2, 2}, {0, 3, 11, 11, 11, 12}, {12, 12, 12, 12, 12, 12, 12, 11}};
        int[][] due = {
            {18, -9, 2, 54, 4, 6, 12, 18, -9, -9, -9, -9},
            {12, -9, 1, 12, 1, 6, 12, -9, -9, -9, -9, -9},
            {6, -9, 0, -9, 0, 6, -9, -9, -9, -9, -9, -9},
            {36, -9, 6, 36, 8, 6, 12, 18, 9, 9, 18, 36},
            {6, -9, 2, 12, 6, 6, 12, 6, -9, -9, -9, -9},
            {18, -9, 2, 180, 12, 6, 12, 18, -9, -9, -9, -9}};
        for (int a = 0; a < acts.length; a++) {
            for (int w = 0; w < whats.length; w++) {
                Due.is("day " + a + ", what " + whats[w], Due.day(x, whats[w], acts[a]), due[a][w]);
            }
        }
        Due.is("twenty acts", Due.day(x, 2, 1, 0, 1, 0, 1, 0, 1, 0, 1, 0, 1, 0, 1, 0, 1, 0, 1, 0, 1, 1), 4);
        Due.row(x, 3, 0, 7, 7, 2, 7);
        Due.is("in the middle, as bytes", x.day(3, 0, 2, 1, 0), 36);
        Due.unchanging(x, "a day changes nothing", y -> y.day(3, 0, 2, 1, 2), 3);
        Due.is("none of it", x.day(3, 0, 4, 0, 0), 18);
        x.sheet(3, 0, 0);
        Due.is("none of no cells", x.day(3, 0, 0, 0, 0), 18);
    }

    private static void promise10FirstWrong() {
        int[][] acts = {{0, 0, 0}, {4}, {5}, {3, 3}, {2, 2}, {1, 1, 1, 1, 1}, {13}, {1, 13, 0, 13}, {12, 12, 12, 12, 12, 12, 12, 12}, {16},
            {1, 1, 1, 1, 0, 1, 16, 1}, {0, 0, 3, 3}};
        int[] due = {2, 0, 0, 1, 1, 4, 0, 3, 7, 0, 7, 3};
        LoopRounds x = Due.made("r6;p1i;b2si");
        for (int a = 0; a < acts.length; a++) {
            Due.is("first wrong of " + a, Due.day(x, 1, acts[a]), due[a]);
            for (int what : new int[] {0, 2, 3, 4, 10, 16}) {
                Due.is("what " + what + " of " + a, Due.day(x, what, acts[a]), -100 - due[a]);
            }
        }
        LoopRounds other = Due.made("r8;p1d;p1d;p1d");
        Due.is("d upon one loop", Due.day(other, 1, 3), 0);
        Due.is("ravelled, then upon two", Due.day(other, 1, 0, 3, 0, 0, 3), -9);
        LoopRounds spun = Due.made("r8;t9s");
        Due.is("SPUN is 9", Due.day(spun, 1, 11), 0);
        Due.is("SPUN becomes 9", Due.day(spun, 3, 0, 1, 11, 11, 11, 11, 11, 11, 11, 11), 72);
        Due.is("SPUN is 9 then", Due.day(spun, 1, 0, 1, 11, 11, 11, 11, 11, 11, 11, 11, 11), 10);
    }

    private static void promise10Order() {
        LoopRounds none = new LoopRounds();
        Due.is("nothing ahead of no piece", none.day(0, 0, 0, 0, 0), -11);
        none.sheet(0, 0, 1);
        none.put(0, 0, 77);
        Due.is("index ahead of no piece", none.day(0, 0, 2, 0, 0), -13);
        Due.is("no piece ahead of a cell", none.day(0, 0, 0, 1, 0), -3);
        Due.is("refused: no fault", none.fault(), 0);
        LoopRounds x = Due.made("r6;p1i;b2si");
        Due.row(x, 1, 2, 0, 6, 10, 17, -1, 5, 11, 16);
        Due.faulting(x, "sheet 4", y -> y.day(4, 3, 0, 21, 5), -1, 0);
        Due.faulting(x, "sheet -1", y -> y.day(-1, 0, 0, 0, 0), -1, 0);
        Due.faulting(x, "lane 3 of nothing", y -> y.day(2, 3, 0, 0, 0), -2, 0);
        Due.faulting(x, "lane -1", y -> y.day(2, -1, 0, 0, 0), -2, 0);
        Due.faulting(x, "n 21 of nothing", y -> y.day(2, 0, 0, 21, 0), -2, 0);
        Due.faulting(x, "n -1 of nothing", y -> y.day(2, 0, 0, -1, 0), -2, 0);
        Due.faulting(x, "what -1", y -> y.day(2, 0, 0, 0, -1), -2, 0);
        Due.faulting(x, "what 5", y -> y.day(2, 0, 0, 0, 5), -2, 0);
        Due.faulting(x, "what 9", y -> y.day(2, 0, 0, 0, 9), -2, 0);
        Due.faulting(x, "what 17", y -> y.day(2, 0, 0, 0, 17), -2, 0);
        Due.faulting(x, "unlike lane", y -> y.day(1, 1, 99, 1, 0), -12, 2);
        Due.faulting(x, "nothing", y -> y.day(2, 1, 99, 1, 0), -11, 1);
        Due.faulting(x, "i -1", y -> y.day(1, 2, -1, 0, 0), -13, 3);
        Due.faulting(x, "i 9, none taken", y -> y.day(1, 2, 9, 0, 0), -13, 3);
        Due.faulting(x, "i 7, two", y -> y.day(1, 2, 7, 2, 0), -13, 3);
        for (int i = 1; i < 5; i++) {
            int from = i;
            Due.faulting(x, "cell " + i, y -> y.day(1, 2, from, 1, 1), -2, 0);
        }
        Due.faulting(x, "a wrong cell behind a wrong act", y -> y.day(1, 2, 0, 2, 1), -2, 0);
        Due.faulting(x, "acts 5, 11, 16", y -> y.day(1, 2, 5, 3, 1), 0, 0);
        Due.faulting(x, "acts 11, 16", y -> y.day(1, 2, 6, 2, 0), -101, 0);
    }
}
