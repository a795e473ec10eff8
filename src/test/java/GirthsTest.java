/** Promises 14 to 19: readings, and what could have been by them. */
public final class GirthsTest {
    public static void main(String[] args) {
        promise14Reading();
        promise15Back();
        promise16Rings();
        promise17Kinds();
        promise18Signings();
        readingsOfRavelled();
        promise19Odds();
        Due.end();
    }

    private static void promise14Reading() {
        LoopRounds x = Due.made("r6;p1i;b2si");
        Due.unchanging(x, "ring", y -> y.reading(0, 0), -1);
        Due.unchanging(x, "round 3", y -> y.reading(3, -1), -1);
        Due.unchanging(x, "round -1", y -> y.reading(-1, 0), -1);
        Due.unchanging(x, "v -1", y -> y.reading(1, -1), -2);
        Due.unchanging(x, "v 1081", y -> y.reading(1, 1081), -2);
        for (int number = 0; number < 8; number++) {
            Due.is("reading " + number, x.reading(1, number == 2 ? 0 : 1080), number);
            Due.is("many", x.many(3), number + 1);
        }
        Due.unchanging(x, "a ninth", y -> y.reading(1, 12), -4);
        Due.unchanging(x, "outside ahead of full", y -> y.reading(1, 1081), -2);
        Due.unchanging(x, "unknown ahead of full", y -> y.reading(3, 12), -1);
        Due.is("back", x.back(3), 5);
        Due.is("again", x.reading(2, 5), 5);
        Due.is("all taken back", x.back(6), 0);
        Due.is("the first again", x.reading(1, 1080), 0);
        Due.is("the second again", x.reading(1, 1080), 1);
        Due.is("a piece anew", Due.piece(x, "r6;p1i"), 1);
        Due.is("the first of a piece anew", x.reading(1, 0), 0);
        Due.is("it is ravelled", x.ravel(1), 0);
        Due.is("of a ravelled one", x.reading(1, 0), -1);
        Due.is("no piece", new LoopRounds().reading(1, 0), -1);
    }

    private static void promise15Back() {
        LoopRounds x = Due.made("r6;p1i");
        Due.is("none", x.back(0), 0);
        Due.is("one of none", x.back(1), -2);
        x.reading(1, 12);
        x.reading(1, 13);
        x.reading(1, 14);
        Due.is("no ring", x.rings(), 0);
        Due.unchanging(x, "four of three", y -> y.back(4), -2);
        Due.unchanging(x, "-1", y -> y.back(-1), -2);
        Due.unchanging(x, "none", y -> y.back(0), 3);
        Due.is("the last", x.back(1), 2);
        Due.is("still none", x.rings(), 0);
        Due.is("the last but the first", x.back(1), 1);
        Due.is("the first stands", x.rings(), 1 << 6);
        Due.is("all", x.back(1), 0);
        Due.is("any ring", x.rings(), 504);
        Due.is("no piece", new LoopRounds().back(0), 0);
    }

    private static void promise16Rings() {
        Due.is("no piece", new LoopRounds().rings(), -3);
        LoopRounds x = Due.made("r6;p1i;b2si");
        Due.is("all come out", x.rings(), 504);
        x.reading(2, 54);
        Due.is("by its own girth", x.rings(), 1 << 6);
        x.reading(1, 14);
        Due.is("by no ring", x.rings(), 0);
        x.back(2);
        x.reading(2, 63);
        Due.is("by another girth", x.rings(), 1 << 7);
        Due.is("the ring is as it was", x.loops(0), 6);
        Due.is("and its rounds", x.loops(2), 18);
        LoopRounds thirds = Due.made("r6;p1sd");
        Due.is("by threes", thirds.rings(), 1 << 3 | 1 << 6);
        LoopRounds even = Due.made("r4;p1d;p1d");
        Due.is("by fours", even.rings(), 1 << 4 | 1 << 8);
        LoopRounds large = Due.made("r6;p1iccc;p1i");
        Due.is("up to 60", large.rings(), 1 << 3 | 1 << 4 | 1 << 5 | 1 << 6);
        large.ravel(2);
        Due.is("the ring alone", large.rings(), 504);
    }

    private static void promise17Kinds() {
        LoopRounds x = Due.made("r6;p1i;b2si");
        Due.is("any", x.kinds(1), 7);
        x.reading(1, 24);
        Due.is("BRUSHED 1 lies as TWINED 1", x.kinds(1), 6);
        Due.is("not by the other's", x.kinds(2), 0);
        x.back(1);
        x.reading(1, 12);
        Due.is("PLAIN", x.kinds(1), 1);
        Due.is("the other's is free", x.kinds(2), 7);
        x.reading(2, 72);
        Due.is("none, by the other", x.kinds(1), 0);
        Due.is("TWINED", x.kinds(2), 4);
        Due.is("the kind is as it was", x.ofRound(2, 0), 1);
        x.back(1);
        x.reading(2, 54);
        Due.is("BRUSHED", x.kinds(2), 2);
        Due.is("spun", x.spun(2, 1), 2);
        Due.is("none, as it is spun", x.kinds(2), 0);
        Due.unchanging(x, "ring", y -> y.kinds(0), -1);
        Due.unchanging(x, "round 3", y -> y.kinds(3), -1);
        Due.unchanging(x, "round -1", y -> y.kinds(-1), -1);
        Due.is("no piece", new LoopRounds().kinds(1), -1);
    }

    private static void promise18Signings() {
        LoopRounds x = Due.made("r6;p1si;p1sd");
        // si, then sd upon 9: s makes ss (6), i ii (12), d di (6), c ci (18), k ki (6); all of them by threes.
        Due.is("all", x.signings(1, 0), 31);
        // si, ss, sd (3 used) makes 4 and no threes, sc 12, sk 3.
        Due.is("all but d", x.signings(1, 1), 1 | 2 | 8 | 16);
        Due.is("of the last, first", x.signings(2, 0), signs(0, 1, 4));
        Due.is("of the last, last", x.signings(2, 1), signs(2, 3));
        x.reading(2, 6);
        Due.is("by its own girth", x.signings(2, 0), signs(0));
        Due.is("below, by that girth", x.signings(1, 1), signs(1));
        x.back(1);
        x.reading(1, 12);
        Due.is("by another girth", x.signings(1, 1), signs(3));
        Due.is("by another girth", x.signings(1, 0), signs(1));
        Due.is("not by what is above", x.signings(2, 0), 0);
        Due.is("the sign is as it was", x.sign(1, 1), 1);
        Due.is("and the loops", x.loops(1), 9);
        Due.unchanging(x, "place 2", y -> y.signings(1, 2), -1);
        Due.unchanging(x, "place -1", y -> y.signings(1, -1), -1);
        Due.unchanging(x, "ring", y -> y.signings(0, 0), -1);
        Due.unchanging(x, "round 3", y -> y.signings(3, 0), -1);
        Due.is("no piece", new LoopRounds().signings(1, 0), -1);
        LoopRounds alone = Due.made("r6;p1s");
        Due.is("one sign", alone.signings(1, 0), signs(0, 1, 2));
    }

    private static int signs(int... of) {
        int set = 0;
        for (int sign : of) {
            set |= 1 << sign;
        }
        return set;
    }

    private static void readingsOfRavelled() {
        LoopRounds x = Due.made("r6;p1i;p1s");
        x.reading(2, 12);
        Due.is("so", x.rings(), 1 << 6);
        Due.is("ravel", x.ravel(1), 1);
        Due.is("the reading stays", x.many(3), 1);
        Due.is("never so: rings", x.rings(), 0);
        Due.is("never so: kinds", x.kinds(1), 0);
        Due.is("never so: signings", x.signings(1, 0), 0);
        Due.is("another is put on there", Due.puton(x, 1, 1, 2), 6);
        Due.is("its girth is that", x.rings(), 1 << 6);
        Due.is("by kinds 1, 2", x.kinds(2), 6);
        x.ravel(2);
        Due.is("never so: the ring alone", x.rings(), 0);
        Due.is("taken back", x.back(1), 0);
        Due.is("the ring alone", x.rings(), 504);
    }

    private static void promise19Odds() {
        LoopRounds x = Due.made("r6;p1i;b2si");
        // Upon i, si works: each loop of the ring has three of eighteen.
        for (int k = 0; k < 6; k++) {
            Due.is("upper of " + k, x.odds(k, 0), 1);
            Due.is("lower of " + k, x.odds(k, 1), 6);
        }
        LoopRounds uneven = Due.made("r4;p1dik");
        Due.is("of d", uneven.odds(0, 0), 1);
        Due.is("of d", uneven.odds(1, 1), 3);
        Due.is("of i", uneven.odds(2, 0), 2);
        Due.is("of i", uneven.odds(2, 1), 3);
        Due.is("of k: none", uneven.odds(3, 0), 0);
        Due.is("of k: none of 1", uneven.odds(3, 1), 1);
        LoopRounds all = Due.made("r8;p1d;p1d;p1d;p1icc");
        Due.is("all but c's", all.odds(7, 0), 1);
        Due.is("all but c's", all.odds(7, 1), 2);
        all.ravel(1);
        Due.is("all", all.odds(3, 0), 1);
        Due.is("all of 1", all.odds(3, 1), 1);
        all.ravel(3);
        Due.is("the ring alone", all.odds(3, 0), 1);
        Due.is("the ring alone", all.odds(3, 1), 8);
        LoopRounds full = Due.made("r6;p1iccc;p1i");
        Due.is("four of sixty", full.odds(5, 0), 1);
        Due.is("four of sixty", full.odds(5, 1), 15);
        LoopRounds less = Due.made("r6;p1i");
        less.ravel(1);
        Due.is("fewer than there were", Due.puton(less, 0, 1, 0), 6);
        Due.is("one of six", less.odds(5, 0) * 100 + less.odds(5, 1), 106);
        Due.is("one of six", less.odds(3, 0) * 100 + less.odds(3, 1), 106);
        Due.unchanging(x, "loop 6", y -> y.odds(6, 0), LoopRounds.LOST);
        Due.unchanging(x, "loop -1", y -> y.odds(-1, 0), LoopRounds.LOST);
        Due.unchanging(x, "which 2", y -> y.odds(0, 2), LoopRounds.LOST);
        Due.unchanging(x, "which -1", y -> y.odds(0, -1), LoopRounds.LOST);
        Due.is("no piece", new LoopRounds().odds(0, 0), LoopRounds.LOST);
    }
}
