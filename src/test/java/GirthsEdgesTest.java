/** The sentences of Terms 4 and of promises 14 to 19 that name a boundary case, one by one. */
public final class GirthsEdgesTest {
    public static void main(String[] args) {
        readingsFull();
        readingsOfRavelled();
        promise14();
        promise15();
        promise16();
        promise16ComesOut();
        promise17();
        promise18();
        promise18ComesOut();
        promise19();
        promise19Order();
        Due.end();
    }

    private static void readingsFull() {
        Edge.shows("Terms 4 READINGS, 8 at most, numbered by how many there are", """
            text r6;p1i = 1 | reading(1, 12) = 0 | reading(1, 12) = 1 | reading(1, 12) = 2 | reading(1, 12) = 3
            reading(1, 12) = 4 | reading(1, 12) = 5 | reading(1, 12) = 6 | many(3) = 7 | reading(1, 12) = 7 | many(3) = 8
            rings() = 64 | reading(1, 12) = FULL | reading(1, 13) = FULL | many(3) = 8 | rings() = 64
            """);
        Edge.shows("Terms 4 numbered by how many there are: behind some that were taken back", """
            text r6;p1i = 1 | reading(1, 1) = 0 | reading(1, 2) = 1 | reading(1, 3) = 2 | back(2) = 1 | reading(1, 4) = 1
            back(2) = 0 | reading(1, 5) = 0 | many(3) = 1 | text r6;p1i = 1 | reading(1, 12) = 0 | rings() = 64
            """);
        Edge.shows("Terms 4 the eighth counts, a ninth does not", """
            text r6;p1i = 1 | reading(1, 12) = 0 | reading(1, 12) = 1 | reading(1, 12) = 2 | reading(1, 12) = 3
            reading(1, 12) = 4 | reading(1, 12) = 5 | reading(1, 12) = 6 | reading(1, 14) = 7 | rings() = 0 | back(1) = 7
            rings() = 64 | reading(1, 12) = 7 | reading(1, 14) = FULL | rings() = 64
            """);
    }

    private static void readingsOfRavelled() {
        Edge.shows("Terms 4 GIRTH of a ROUND is v (never so, while it is ravelled)", """
            text r6;p1i;p1s = 2 | reading(2, 12) = 0 | rings() = 64 | kinds(1) = 7 | signings(1, 0) = 2 | ravel(1) = 1
            many(3) = 1 | rings() = 0 | kinds(1) = 0 | signings(1, 0) = 0 | ravel(1) = 0 | rings() = 0 | many(3) = 1
            back(1) = 0 | rings() = 504
            """);
        Edge.shows("Terms 4 while it is ravelled: of the ROUND that is put on there then", """
            text r6;p1i;p1s = 2 | reading(2, 12) = 0 | ravel(1) = 1 | rings() = 0 | row 1 0: 2 | puton(2, 1, 1, 0, 0, 1) = 6
            ofRound(2, 6) = 12 | rings() = 64 | kinds(2) = 6
            """);
        Edge.shows("Terms 4 a READING of 0 is never so, of a ravelled one neither", """
            text r6;p1i;p1s = 2 | reading(2, 0) = 0 | rings() = 0 | ravel(1) = 1 | rings() = 0 | kinds(1) = 0
            signings(1, 0) = 0
            """);
    }

    private static void promise14() {
        Edge.shows("14 UNKNOWN: ROUND (from 1 on), ahead of OUTSIDE", """
            reading(0, 0) = UNKNOWN | reading(1, -1) = UNKNOWN | text r6;p1i = 1 | reading(0, 6) = UNKNOWN
            reading(2, 6) = UNKNOWN | reading(-1, 6) = UNKNOWN | reading(0, -1) = UNKNOWN | reading(2, 1081) = UNKNOWN
            reading(MIN, 1) = UNKNOWN | reading(MAX, 1) = UNKNOWN | ravel(1) = 0 | reading(1, 12) = UNKNOWN | many(3) = 0
            """);
        Edge.shows("14 OUTSIDE: v (0 .. 1080)", """
            text r6;p1i = 1 | reading(1, -1) = OUTSIDE | reading(1, 1081) = OUTSIDE | reading(1, MIN) = OUTSIDE
            reading(1, MAX) = OUTSIDE | many(3) = 0 | reading(1, 0) = 0 | reading(1, 1080) = 1 | many(3) = 2
            """);
        Edge.shows("14 FULL, behind UNKNOWN and OUTSIDE", """
            text r6;p1i = 1 | reading(1, 1) = 0 | reading(1, 1) = 1 | reading(1, 1) = 2 | reading(1, 1) = 3 | reading(1, 1) = 4
            reading(1, 1) = 5 | reading(1, 1) = 6 | reading(1, 1) = 7 | reading(1, 1) = FULL | reading(1, -1) = OUTSIDE
            reading(1, 1081) = OUTSIDE | reading(0, 1) = UNKNOWN | reading(2, -1) = UNKNOWN | back(1) = 7 | reading(1, 1) = 7
            reading(1, 1) = FULL
            """);
        Edge.shows("14 of the sixth ROUND, the most GIRTH", """
            text r6;p1iccc;p1i;p1s;p1s;p1s;t9s = 6 | reading(6, 1080) = 0 | rings() = 64 | kinds(6) = 4 | signings(6, 0) = 1
            """);
    }

    private static void promise15() {
        Edge.shows("15 The last n READINGS (0 .. as many as there are): OUTSIDE", """
            text r6;p1i = 1 | back(0) = 0 | back(1) = OUTSIDE | back(-1) = OUTSIDE | reading(1, 12) = 0 | reading(1, 14) = 1
            back(3) = OUTSIDE | back(-1) = OUTSIDE | back(MIN) = OUTSIDE | back(MAX) = OUTSIDE | many(3) = 2 | rings() = 0
            back(0) = 2 | back(1) = 1 | rings() = 64 | back(2) = OUTSIDE | back(1) = 0 | rings() = 504 | back(1) = OUTSIDE
            """);
        Edge.shows("15 of a new object", "back(0) = 0 | back(1) = OUTSIDE | back(-1) = OUTSIDE");
        Edge.shows("15 all eight at once", """
            text r6;p1i = 1 | reading(1, 1) = 0 | reading(1, 1) = 1 | reading(1, 1) = 2 | reading(1, 1) = 3 | reading(1, 1) = 4
            reading(1, 1) = 5 | reading(1, 1) = 6 | reading(1, 1) = 7 | back(9) = OUTSIDE | back(8) = 0 | rings() = 504
            """);
    }

    private static void promise16() {
        Edge.shows("16 STATE: there is no PIECE", """
            rings() = STATE | text r6;p1k = -201 | rings() = STATE | text r6;p1s = 1 | rings() = 504 | ravel(1) = 0
            rings() = 504
            """);
        Edge.shows("Terms 4 RINGS: 3 .. 8: the least, the most", """
            text r5;p1s = 1 | reading(1, 3) = 0 | rings() = 8 | back(1) = 0 | reading(1, 8) = 0 | rings() = 256 | back(1) = 0
            reading(1, 2) = 0 | rings() = 0 | back(1) = 0 | reading(1, 9) = 0 | rings() = 0 | loops(0) = 5 | loops(1) = 5
            """);
        Edge.shows("Terms 4 all READINGS are so", """
            text r5;p1s;b1i = 2 | reading(1, 7) = 0 | rings() = 128 | reading(2, 28) = 1 | rings() = 128 | reading(2, 24) = 2
            rings() = 0 | back(1) = 2 | rings() = 128
            """);
    }

    private static void promise16ComesOut() {
        Edge.shows("Terms 4 RINGS by which all ROUNDS COME OUT: not used up, more than sixty", """
            text r6;p1sd = 1 | rings() = 72 | text r8;p1d;p1d = 2 | rings() = 272 | text r6;p1iccc;p1i = 2 | rings() = 120
            text r4;p1ssss = 1 | rings() = 272 | text r5;p1sssss = 1 | rings() = 32 | text r6;p1iccc;p1i;p1d = 3 | rings() = 120
            """);
    }

    private static void promise17() {
        Edge.shows("17 KINDS, as a set: UNKNOWN", """
            kinds(1) = UNKNOWN | text r6;p1i = 1 | kinds(0) = UNKNOWN | kinds(2) = UNKNOWN | kinds(-1) = UNKNOWN
            kinds(MIN) = UNKNOWN | kinds(MAX) = UNKNOWN | kinds(1) = 7 | ravel(1) = 0 | kinds(1) = UNKNOWN
            """);
        Edge.shows("Terms 4 KINDS of a ROUND: 0 .. 2: each alone, two alike, none", """
            text r6;t3s = 1 | reading(1, 18) = 0 | kinds(1) = 1 | back(1) = 0 | reading(1, 24) = 0 | kinds(1) = 2 | back(1) = 0
            reading(1, 36) = 0 | kinds(1) = 4 | back(1) = 0 | reading(1, 30) = 0 | kinds(1) = 0 | back(1) = 0 | spun(1, 1) = 3
            reading(1, 12) = 0 | kinds(1) = 6 | ofRound(1, 0) = 2
            """);
        Edge.shows("Terms 4 in place of what it is alone: the others stay what they are", """
            text r6;p1s;b1s = 2 | reading(1, 12) = 0 | kinds(1) = 6 | kinds(2) = 0 | reading(2, 12) = 1 | kinds(1) = 6
            back(1) = 1 | reading(2, 6) = 1 | kinds(1) = 0 | kinds(2) = 0
            """);
        Edge.shows("17 of the sixth", """
            text r3;p1s;p1s;p1s;p1s;p1s;b9s = 6 | reading(6, 54) = 0 | kinds(6) = 4 | kinds(1) = 0 | kinds(7) = UNKNOWN
            """);
    }

    private static void promise18() {
        Edge.shows("18 UNKNOWN: ROUND, place", """
            signings(1, 0) = UNKNOWN | text r6;p1si;p1s = 2 | signings(0, 0) = UNKNOWN | signings(3, 0) = UNKNOWN
            signings(-1, 0) = UNKNOWN | signings(1, -1) = UNKNOWN | signings(1, 2) = UNKNOWN | signings(2, 1) = UNKNOWN
            signings(1, MIN) = UNKNOWN | signings(1, MAX) = UNKNOWN | signings(MIN, 0) = UNKNOWN | signings(MAX, 0) = UNKNOWN
            ravel(1) = 1 | signings(2, 0) = UNKNOWN
            """);
        // In place of the last of five s upon 5: s 5, i 6, k 4; d uses six, c four.
        Edge.shows("18 the fifth place", """
            text r5;p1sssss = 1 | signings(1, 4) = 19 | signings(1, 5) = UNKNOWN | signings(1, 0) = 19 | sign(1, 4) = 0
            loops(1) = 5
            """);
        // Upon 6, ss makes 6, is 9, ds 4, cs 12, ks 3.
        Edge.shows("Terms 4 SIGNINGS of a SIGN of a ROUND: 0 .. 4: each alone, by its GIRTH", """
            text r6;p1ss = 1 | signings(1, 0) = 31 | reading(1, 6) = 0 | signings(1, 0) = 1 | back(1) = 0 | reading(1, 9) = 0
            signings(1, 0) = 2 | back(1) = 0 | reading(1, 4) = 0 | signings(1, 0) = 4 | back(1) = 0 | reading(1, 12) = 0
            signings(1, 0) = 8 | back(1) = 0 | reading(1, 3) = 0 | signings(1, 1) = 16 | back(1) = 0 | reading(1, 5) = 0
            signings(1, 1) = 0
            """);
    }

    private static void promise18ComesOut() {
        Edge.shows("Terms 4 SIGNINGS by which all ROUNDS COME OUT: the SIGN alone: no c, no k", """
            text r6;p1s = 1 | signings(1, 0) = 7 | text r5;p1s = 1 | signings(1, 0) = 3
            """);
        // Upon 12, sccc makes 48, iccc 60, dccc 24, kccc 36; cccc uses none. Upon iccc of 12, i makes 120.
        Edge.shows("Terms 4 SIGNINGS by which all ROUNDS COME OUT: those above, too, and not more than sixty", """
            text r6;p1i;p1iccc = 2 | signings(1, 0) = 7 | signings(2, 0) = 23 | text r6;p1s;p1iccc;p1i = 3 | signings(1, 0) = 5
            signings(3, 0) = 7 | signings(2, 1) = 31
            """);
        Edge.shows("Terms 4 SIGNINGS: in place of what it is alone, not of the same SIGN elsewhere", """
            text r4;p1ss;p1s = 2 | reading(2, 6) = 0 | signings(1, 0) = 2 | signings(1, 1) = 2 | signings(2, 0) = 0
            sign(1, 0) = 0 | sign(1, 1) = 0
            """);
    }

    private static void promise19() {
        Edge.shows("19 ODDS of a loop of the RING: none: 0 of 1", """
            text r4;p1sk = 1 | odds(0, 0) = 1 | odds(0, 1) = 2 | odds(1, 0) = 0 | odds(1, 1) = 1 | odds(3, 0) = 0
            odds(3, 1) = 1
            """);
        Edge.shows("19 ODDS of a loop of the RING: all: 1 of 1", """
            text r8;p1d;p1d;p1d = 3 | odds(0, 0) = 1 | odds(0, 1) = 1 | odds(7, 0) = 1 | odds(7, 1) = 1
            """);
        Edge.shows("19 of all loops of the last ROUND: of the RING, if there is no other", """
            text r8;p1d = 1 | odds(7, 0) = 1 | odds(7, 1) = 4 | ravel(1) = 0 | odds(0, 0) = 1 | odds(0, 1) = 8 | odds(7, 0) = 1
            odds(7, 1) = 8 | odds(8, 0) = LOST
            """);
        Edge.shows("Terms Shares are told in least terms", """
            text r6;p1iccc;p1i = 2 | odds(0, 0) = 1 | odds(0, 1) = 15 | odds(5, 0) = 1 | odds(5, 1) = 15 | text r4;p1dii = 1
            odds(0, 0) = 1 | odds(0, 1) = 5 | odds(2, 0) = 2 | odds(2, 1) = 5 | text r3;p1si;p1s = -201 | text r3;p1sik = 1
            odds(1, 0) = 2 | odds(1, 1) = 3 | odds(0, 0) = 1 | odds(0, 1) = 3 | odds(2, 0) = 0 | text r4;p1iiik;p1s = 2
            odds(0, 0) = 1 | odds(0, 1) = 3 | text r4;p1isss;p1i = 2 | odds(0, 0) = 2 | odds(0, 1) = 5 | odds(1, 0) = 1
            odds(1, 1) = 5
            """);
        Edge.shows("19 a loop that has two for ROOTS counts for both", """
            text r4;p1ds = -201 | text r6;p1ds = 1 | odds(0, 1) = 4 | odds(1, 1) = 4 | odds(2, 1) = 4 | odds(2, 0) = 1
            """);
    }

    private static void promise19Order() {
        Edge.shows("19 LOST: UNKNOWN: a loop of the RING", """
            odds(0, 0) = LOST | text r3;p1i = 1 | odds(-1, 0) = LOST | odds(3, 0) = LOST | odds(5, 1) = LOST
            odds(MIN, 0) = LOST | odds(MAX, 0) = LOST | odds(2, 0) = 1 | odds(2, 1) = 3
            """);
        Edge.shows("19 LOST: OUTSIDE: which 0, 1", """
            text r3;p1i = 1 | odds(0, -1) = LOST | odds(0, 2) = LOST | odds(0, MIN) = LOST | odds(0, MAX) = LOST
            odds(0, 0) = 1 | odds(0, 1) = 3
            """);
    }
}
