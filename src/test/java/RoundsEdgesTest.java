/** The sentences of Terms 2 and of promises 8 to 10 that name a boundary case, one by one. */
public final class RoundsEdgesTest {
    public static void main(String[] args) {
        dayActs();
        dayFirstWrong();
        dayChangesNothing();
        promise8Taken();
        promise8ComesOut();
        promise8OrderOfRefusals();
        promise8OrderOfFaults();
        promise8Last();
        promise9();
        promise10What();
        promise10Cells();
        promise10OrderOfRefusals();
        promise10OrderOfFaults();
        promise10Last();
        Due.end();
    }

    private static void dayActs() {
        Edge.shows("Terms 2 a row of acts: none at all", """
            text r6;p1i = 1 | row 2 1: | day(2, 1, 0, 0, 0) = 12 | day(2, 1, 0, 0, 1) = NONE | day(2, 1, 0, 0, 2) = 1
            day(2, 1, 0, 0, 3) = 12 | day(2, 1, 0, 0, 4) = 1
            """);
        Edge.shows("Terms 2 0: the last ROUND is ravelled", """
            text r6;p1i;b2si = 2 | row 2 1: 0 0 | day(2, 1, 0, 1, 0) = 12 | day(2, 1, 0, 1, 2) = 1 | day(2, 1, 0, 2, 0) = 6
            day(2, 1, 0, 2, 2) = 0
            """);
        Edge.shows("Terms 2 1 and x (1 .. 5): a ROUND of SIGN x alone is put on, PLAIN, SPUN 1", """
            text r6;t9s = 1 | row 2 1: 1 2 3 4 5 | day(2, 1, 0, 1, 0) = 6 | day(2, 1, 0, 1, 3) = 6 | day(2, 1, 0, 1, 4) = 19
            day(2, 1, 1, 1, 0) = 12 | day(2, 1, 1, 1, 3) = 12 | day(2, 1, 2, 1, 0) = 3 | day(2, 1, 2, 1, 3) = 3
            day(2, 1, 3, 1, 1) = 0 | day(2, 1, 4, 1, 1) = 0
            """);
        Edge.shows("Terms 2 10 and r (11 .. 16): SPUN of ROUND r is 1 more", """
            text r6;p1s;b1s;t1s;p1s;b1s;t1s = 6 | row 2 1: 11 12 13 14 15 16 | day(2, 1, 0, 6, 4) = 18 | day(2, 1, 0, 6, 3) = 24
            day(2, 1, 5, 1, 3) = 24 | day(2, 1, 0, 5, 3) = 12 | day(2, 1, 0, 1, 4) = 11 | day(2, 1, 1, 1, 4) = 11
            day(2, 1, 2, 1, 4) = 12 | ofRound(6, 7) = 10
            """);
    }

    private static void dayFirstWrong() {
        Edge.shows("Terms 2 FIRST WRONG: there is no ROUND but the RING", """
            text r6;p1i = 1 | row 2 0: 0 0 0 1 | day(2, 0, 0, 1, 1) = NONE | day(2, 0, 0, 2, 1) = 1 | day(2, 0, 0, 4, 1) = 1
            ravel(1) = 0 | day(2, 0, 0, 1, 1) = 0 | day(2, 0, 3, 1, 1) = NONE
            """);
        Edge.shows("Terms 2 FIRST WRONG: it does not COME OUT: none, more than sixty, not used up", """
            text r6;p1iccc = 1 | row 2 0: 2 1 2 0 5 | day(2, 0, 0, 1, 0) = 60 | day(2, 0, 0, 2, 0) = 60 | day(2, 0, 0, 3, 1) = 2
            row 2 0: 5 | day(2, 0, 0, 1, 1) = 0 | row 2 0: 4 | day(2, 0, 0, 1, 1) = 0 | row 2 0: 3 3 | day(2, 0, 0, 1, 0) = 15
            day(2, 0, 0, 2, 1) = 1 | text r8;p1d;p1d;p1i;p1i = 4 | row 2 0: 2 2 | day(2, 0, 0, 2, 0) = 32 | text r8;p1i;p1i = 2
            row 2 0: 2 | day(2, 0, 0, 1, 1) = 0
            """);
        Edge.shows("Terms 2 FIRST WRONG: one loop is left: s and i can be, d can't", """
            text r3;p1dk = 1 | row 2 0: 1 2 3 | day(2, 0, 0, 1, 0) = 1 | day(2, 0, 1, 1, 0) = 2 | day(2, 0, 2, 1, 1) = 0
            day(2, 0, 0, 3, 0) = 1 | day(2, 0, 0, 3, 2) = 4
            """);
        Edge.shows("Terms 2 FIRST WRONG: there are 6", """
            text r6;p1s;p1s;p1s;p1s;p1s = 5 | row 2 0: 1 1 0 1 1 | day(2, 0, 0, 1, 2) = 6 | day(2, 0, 0, 2, 1) = 1
            day(2, 0, 1, 4, 1) = 3 | day(2, 0, 1, 3, 2) = 6
            """);
        Edge.shows("Terms 2 FIRST WRONG: there is no such ROUND: never, not yet, not any more", """
            text r6;p1s;p1s = 2 | row 2 0: 12 13 1 13 0 13 0 12 | day(2, 0, 0, 1, 1) = NONE | day(2, 0, 1, 1, 1) = 0
            day(2, 0, 2, 2, 1) = NONE | day(2, 0, 2, 4, 1) = 3 | row 2 0: 0 12 | day(2, 0, 0, 2, 1) = 1 | row 2 0: 16
            day(2, 0, 0, 1, 1) = 0 | ravel(2) = 0 | row 2 0: 11 | day(2, 0, 0, 1, 1) = 0
            """);
        Edge.shows("Terms 2 FIRST WRONG: SPUN is 9", """
            text r6;p8s;p9s = 2 | row 2 0: 11 11 | day(2, 0, 0, 1, 1) = NONE | day(2, 0, 0, 1, 4) = 18 | day(2, 0, 0, 2, 1) = 1
            row 2 0: 12 | day(2, 0, 0, 1, 1) = 0 | spun(1, 9) = 8 | row 2 0: 11 | day(2, 0, 0, 1, 1) = 0 | row 2 0: 0 1 12
            day(2, 0, 0, 3, 4) = 11
            """);
    }

    private static void dayChangesNothing() {
        Edge.shows("Terms 2 from how all is now (nothing is changed)", """
            text r6;p1i;b2si = 2 | row 2 0: 11 0 0 2 1 1 | day(2, 0, 0, 6, 0) = 12 | day(2, 0, 0, 6, 0) = 12 | ofRound(1, 1) = 1
            ofRound(2, 0) = 1 | many(0) = 2 | day(2, 0, 1, 2, 0) = 6 | many(1) = 18 | loop(1, 0, 3) = 1 | loop(1, 1, 3) = 2
            ravel(1) = 1 | day(2, 0, 3, 1, 0) = 24 | loops(2) = UNKNOWN
            """);
    }

    private static void promise8Taken() {
        Edge.shows("8 A ROUND of n SIGNS is put on: how many loops there are in it: 1, 60", """
            text r3;p1s = 1 | row 1 0: 2 4 1 3 3 | puton(0, 1, 1, 0, 0, 2) = 1 | ofRound(2, 4) = 1 | ofRound(2, 5) = 1
            ravel(1) = 1 | text r6;p1iccc = 1 | row 1 0: 1 | puton(2, 9, 1, 0, 0, 1) = 60 | ofRound(2, 6) = 1080
            """);
        Edge.shows("8 kind (0 .. 2), v (SPUN, 1 .. 9): the least and the most", """
            text r3;p1s = 1 | row 1 0: 0 | puton(0, 1, 1, 0, 0, 1) = 3 | puton(2, 9, 1, 0, 0, 1) = 3
            puton(1, 5, 1, 0, 0, 1) = 3 | ofRound(2, 0) = 0 | ofRound(2, 1) = 1 | ofRound(3, 0) = 2 | ofRound(3, 1) = 9
            ofRound(4, 0) = 1 | ofRound(4, 1) = 5
            """);
        Edge.shows("8 n (1 .. 5): one, five", """
            text r5;p1s = 1 | row 1 2: 4 3 2 1 0 | puton(0, 1, 1, 2, 4, 1) = 5 | ofRound(2, 3) = 1 | puton(0, 1, 1, 2, 0, 5) = 5
            ofRound(3, 3) = 5 | sign(3, 0) = 4 | sign(3, 1) = 3 | sign(3, 2) = 2 | sign(3, 3) = 1 | sign(3, 4) = 0
            loop(3, 0, 1) = NONE | loop(3, 1, 1) = 1 | loop(3, 1, 2) = 2
            """);
        Edge.shows("8 upon the RING alone", """
            text r7;p1s = 1 | ravel(1) = 0 | row 1 2: 1 | puton(1, 2, 1, 2, 0, 1) = 14 | many(0) = 1 | loop(1, 13, 1) = 6
            loop(1, 13, 4) = 64 | bare(0) = 0
            """);
        Edge.shows("8 cells of a SHEET from i on: the last of sixty", """
            text r7;p1s = 1 | sheet(3, 1, 60) = 1 | put(3, 59, 1) = 1 | puton(0, 1, 3, 1, 59, 1) = 14
            puton(0, 1, 3, 1, 59, 2) = INDEX | puton(0, 1, 3, 1, 55, 5) = STATE | puton(0, 1, 3, 1, 60, 1) = INDEX
            puton(0, 1, 3, 1, 56, 5) = INDEX
            """);
    }

    private static void promise8ComesOut() {
        Edge.shows("8 STATE: it does not COME OUT", """
            text r5;p1s = 1 | row 1 1: 2 3 4 0 0 | puton(0, 1, 1, 1, 0, 1) = STATE | puton(0, 1, 1, 1, 1, 1) = STATE
            puton(0, 1, 1, 1, 2, 1) = STATE | puton(0, 1, 1, 1, 3, 2) = STATE | puton(0, 1, 1, 1, 1, 3) = STATE
            puton(0, 1, 1, 1, 0, 5) = 4 | many(0) = 2
            """);
        Edge.shows("8 STATE: more than sixty", """
            text r7;p1ic = 1 | row 1 1: 1 3 | puton(0, 1, 1, 1, 0, 2) = STATE | puton(0, 1, 1, 1, 0, 1) = 42
            puton(0, 1, 1, 1, 0, 1) = STATE | many(0) = 2 | loops(2) = 42
            """);
        Edge.shows("8 a refused ROUND leaves no SIGN behind", """
            text r5;p1s = 1 | row 1 1: 4 4 0 0 | puton(2, 9, 1, 1, 0, 4) = STATE | sign(2, 0) = UNKNOWN
            puton(0, 1, 1, 1, 2, 1) = 5 | ofRound(2, 3) = 1 | ofRound(2, 0) = 0 | ofRound(2, 1) = 1 | sign(2, 1) = UNKNOWN
            """);
    }

    private static void promise8OrderOfRefusals() {
        Edge.shows("8 OUTSIDE: kind (0 .. 2), v (SPUN, 1 .. 9), ahead of STATE: there is no PIECE", """
            puton(-1, 1, 0, 0, 0, 1) = OUTSIDE | puton(3, 1, 0, 0, 0, 1) = OUTSIDE | puton(MIN, 1, 9, 9, 9, 9) = OUTSIDE
            puton(MAX, 1, 9, 9, 9, 9) = OUTSIDE | puton(0, 0, 0, 0, 0, 1) = OUTSIDE | puton(0, 10, 0, 0, 0, 1) = OUTSIDE
            puton(2, MIN, 9, 9, 9, 9) = OUTSIDE | puton(2, MAX, 9, 9, 9, 9) = OUTSIDE | puton(0, 1, 0, 0, 0, 1) = STATE
            puton(2, 9, 0, 0, 0, 1) = STATE
            """);
        Edge.shows("8 STATE: there is no PIECE, ahead of UNKNOWN: SHEET", """
            puton(0, 1, -1, 0, 0, 1) = STATE | puton(0, 1, 4, 3, 0, 0) = STATE | row 1 1: 0 | puton(0, 1, 1, 1, 0, 1) = STATE
            puton(0, 1, 1, 0, 0, 1) = STATE | text r6;p1c = -201 | puton(0, 1, 1, 1, 0, 1) = STATE | many(0) = 0
            """);
        Edge.shows("8 UNKNOWN: SHEET, behind OUTSIDE: kind, v, and ahead of OUTSIDE: lane, n", """
            text r6;p1s = 1 | puton(0, 1, -1, -1, 0, 1) = UNKNOWN | puton(0, 1, 4, 0, 0, 0) = UNKNOWN
            puton(0, 1, MIN, 3, 0, 6) = UNKNOWN | puton(0, 1, MAX, 0, 0, 1) = UNKNOWN | puton(3, 1, 4, 0, 0, 1) = OUTSIDE
            puton(0, 0, -1, 0, 0, 1) = OUTSIDE | puton(0, 10, 4, 0, 0, 1) = OUTSIDE | puton(-1, 1, 4, 0, 0, 1) = OUTSIDE
            """);
        Edge.shows("8 OUTSIDE: lane, n (1 .. 5), ahead of the FAULTS", """
            text r6;p1s = 1 | puton(0, 1, 1, -1, 0, 1) = OUTSIDE | puton(0, 1, 1, 3, 0, 1) = OUTSIDE
            puton(0, 1, 1, 0, 0, 0) = OUTSIDE | puton(0, 1, 1, 0, 0, 6) = OUTSIDE | puton(0, 1, 0, 1, 0, 0) = OUTSIDE
            puton(0, 1, 0, 0, -1, 6) = OUTSIDE | puton(0, 1, 0, 0, 0, -1) = OUTSIDE | puton(0, 1, 0, 0, 0, MIN) = OUTSIDE
            puton(0, 1, 0, 0, 0, MAX) = OUTSIDE | puton(0, 1, 0, MIN, 0, 1) = OUTSIDE | puton(0, 1, 0, MAX, 0, 1) = OUTSIDE
            """);
    }

    private static void promise8OrderOfFaults() {
        Edge.shows("8 CAST ahead of INDEX", """
            text r6;p1s = 1 | row 1 1: 0 | puton(0, 1, 1, 0, 0, 1) = CAST | puton(0, 1, 1, 2, 9, 5) = CAST
            puton(0, 1, 1, 2, -1, 1) = CAST | puton(0, 1, 1, 1, 0, 1) = 6
            """);
        Edge.shows("8 NULL, ahead of INDEX", """
            text r6;p1s = 1 | puton(0, 1, 1, 0, -1, 1) = NULL | puton(0, 1, 2, 1, 9, 5) = NULL | puton(0, 1, 3, 2, 0, 1) = NULL
            lose(0) = 1 | puton(0, 1, 0, 1, 0, 1) = NULL
            """);
        Edge.shows("8 INDEX: from i on", """
            text r6;p1s = 1 | row 1 1: 0 0 0 | puton(0, 1, 1, 1, -1, 1) = INDEX | puton(0, 1, 1, 1, 3, 1) = INDEX
            puton(0, 1, 1, 1, 0, 4) = INDEX | puton(0, 1, 1, 1, 2, 2) = INDEX | puton(0, 1, 1, 1, MIN, 5) = INDEX
            puton(0, 1, 1, 1, MAX, 5) = INDEX | puton(0, 1, 1, 1, 0, 3) = 6 | puton(0, 1, 1, 1, 2, 1) = 6 | row 1 1:
            puton(0, 1, 1, 1, 0, 1) = INDEX
            """);
        Edge.shows("8 FAULTS ahead of OUTSIDE: a cell is not 0 .. 4", """
            text r6;p1s = 1 | row 1 1: 5 | puton(0, 1, 1, 1, 0, 2) = INDEX | puton(0, 1, 1, 0, 0, 1) = CAST
            puton(0, 1, 1, 1, 0, 1) = OUTSIDE
            """);
    }

    private static void promise8Last() {
        Edge.shows("8 OUTSIDE: a cell is not 0 .. 4, the first or the last of them", """
            text r6;p1s = 1 | row 1 2: 5 0 -1 4 0 MIN MAX | puton(0, 1, 1, 2, 0, 1) = OUTSIDE
            puton(0, 1, 1, 2, 0, 2) = OUTSIDE | puton(0, 1, 1, 2, 1, 2) = OUTSIDE | puton(0, 1, 1, 2, 2, 1) = OUTSIDE
            puton(0, 1, 1, 2, 5, 1) = OUTSIDE | puton(0, 1, 1, 2, 6, 1) = OUTSIDE | puton(0, 1, 1, 2, 3, 2) = 3
            puton(0, 1, 1, 2, 1, 1) = 3
            """);
        Edge.shows("8 OUTSIDE: a cell that is cut to its LANE is what it is then", """
            text r6;p1s = 1 | row 1 0: 257 | puton(0, 1, 1, 0, 0, 1) = 12 | row 1 1: 257 | puton(0, 1, 1, 1, 0, 1) = OUTSIDE
            row 1 1: 65537 | puton(0, 1, 1, 1, 0, 1) = 24
            """);
        Edge.shows("8 FULL: there are 6, behind OUTSIDE: a cell and ahead of STATE: it does not COME OUT", """
            text r6;p1s;p1s;p1s;p1s;p1s = 5 | row 1 2: 0 3 5 | puton(0, 1, 1, 2, 1, 1) = STATE | puton(0, 1, 1, 2, 0, 1) = 6
            puton(0, 1, 1, 2, 0, 1) = FULL | puton(0, 1, 1, 2, 1, 1) = FULL | puton(0, 1, 1, 2, 2, 1) = OUTSIDE
            puton(0, 1, 1, 2, 3, 1) = INDEX | puton(0, 1, 1, 1, 0, 1) = CAST | puton(0, 1, 2, 1, 0, 1) = NULL | many(0) = 6
            ravel(1) = 5 | puton(0, 1, 1, 2, 0, 1) = 6 | puton(0, 1, 1, 2, 0, 1) = FULL
            """);
    }

    private static void promise9() {
        Edge.shows("9 The last n ROUNDS (0 .. as many as there are without the RING): OUTSIDE", """
            text r6;p1i;p1s;p1s = 3 | ravel(-1) = OUTSIDE | ravel(4) = OUTSIDE | ravel(MIN) = OUTSIDE | ravel(MAX) = OUTSIDE
            many(0) = 3 | ravel(0) = 3 | ravel(1) = 2 | ravel(3) = OUTSIDE | ravel(2) = 0 | ravel(0) = 0 | ravel(1) = OUTSIDE
            ravel(-1) = OUTSIDE | loops(0) = 6 | loops(1) = UNKNOWN
            """);
        Edge.shows("9 all six at once", """
            text r6;p1s;p1s;p1s;p1s;p1s;p1s = 6 | ravel(7) = OUTSIDE | ravel(6) = 0 | many(1) = 6 | many(2) = 6 | rings() = 504
            """);
        Edge.shows("9 OUTSIDE, ahead of STATE: there is no PIECE", """
            ravel(1) = OUTSIDE | ravel(-1) = OUTSIDE | ravel(MAX) = OUTSIDE | ravel(MIN) = OUTSIDE | ravel(0) = STATE
            """);
        Edge.shows("9 what is ravelled is not there any more, what is below stands", """
            text r4;p2i;b3s;t1d = 3 | ravel(2) = 1 | ofRound(2, 0) = UNKNOWN | loop(2, 0, 0) = UNKNOWN | kinds(2) = UNKNOWN
            tell(2) = UNKNOWN | ofRound(1, 1) = 2 | ofRound(1, 4) = 8 | bare(1) = 8 | bare(0) = 0 | odds(3, 1) = 4
            fewest(8, -1) = 0
            """);
    }

    private static void promise10What() {
        Edge.shows("10 GIRTH of the last one then (3; NONE: it is the RING), OUT (4; 0 of the RING)", """
            text r6;p3i = 1 | row 2 0: 0 | day(2, 0, 0, 1, 3) = NONE | day(2, 0, 0, 1, 4) = 0 | day(2, 0, 0, 1, 0) = 6
            day(2, 0, 0, 1, 2) = 0 | day(2, 0, 0, 1, 1) = NONE | day(2, 0, 0, 0, 3) = 36 | day(2, 0, 0, 0, 4) = 3
            """);
        Edge.shows("10 loops of ROUND r then (10 and r; NONE: there is no such ROUND)", """
            text r6;p3i = 1 | row 2 0: 0 2 2 1 3 3 3 | day(2, 0, 0, 1, 10) = 6 | day(2, 0, 0, 1, 11) = NONE
            day(2, 0, 0, 1, 16) = NONE | day(2, 0, 0, 6, 15) = 6 | day(2, 0, 0, 6, 16) = NONE | day(2, 0, 0, 7, 16) = 3
            day(2, 0, 0, 7, 10) = 6 | day(2, 0, 0, 7, 11) = 12 | day(2, 0, 0, 7, 14) = 12 | day(2, 0, 0, 7, 12) = 24
            """);
        Edge.shows("10 of one with a FIRST WRONG: -100 less that (but what 1): the first act, the twentieth", """
            text r6;p3i = 1 | row 2 0: 5 0 0 | day(2, 0, 0, 1, 0) = -100 | day(2, 0, 0, 1, 1) = 0 | day(2, 0, 0, 1, 2) = -100
            day(2, 0, 0, 1, 3) = -100 | day(2, 0, 0, 1, 4) = -100 | day(2, 0, 0, 1, 10) = -100 | day(2, 0, 0, 1, 16) = -100
            day(2, 0, 1, 2, 4) = -101 | day(2, 0, 1, 2, 1) = 1 | row 2 0: 1 0 1 0 1 0 1 0 1 0 1 0 1 0 1 0 1 0 1 5
            day(2, 0, 0, 20, 0) = -119 | day(2, 0, 0, 20, 1) = 19 | day(2, 0, 0, 19, 2) = 2
            """);
        Edge.shows("10 what (0 .. 4, 10 .. 16)", """
            text r6;p3i = 1 | row 2 0: 1 | day(2, 0, 0, 1, -1) = OUTSIDE | day(2, 0, 0, 1, 5) = OUTSIDE
            day(2, 0, 0, 1, 6) = OUTSIDE | day(2, 0, 0, 1, 9) = OUTSIDE | day(2, 0, 0, 1, 17) = OUTSIDE
            day(2, 0, 0, 1, MIN) = OUTSIDE | day(2, 0, 0, 1, MAX) = OUTSIDE | day(2, 0, 0, 1, 0) = 12 | day(2, 0, 0, 1, 4) = 4
            day(2, 0, 0, 1, 10) = 6 | day(2, 0, 0, 1, 16) = NONE
            """);
    }

    private static void promise10Cells() {
        Edge.shows("10 n (0 .. 20)", """
            text r6;p1s = 1 | sheet(2, 2, 60) = 1 | put(2, 0, 1) = 1 | put(2, 20, 1) = 1 | day(2, 2, 1, 20, 1) = 1
            day(2, 2, 0, 20, 1) = 3 | day(2, 2, 0, 21, 1) = OUTSIDE | day(2, 2, 0, -1, 1) = OUTSIDE
            day(2, 2, 0, MIN, 1) = OUTSIDE | day(2, 2, 0, MAX, 1) = OUTSIDE | day(2, 2, 60, 0, 1) = NONE
            day(2, 2, 59, 1, 1) = NONE
            """);
        Edge.shows("10 twenty acts that all can be", """
            text r6;p1s = 1 | row 2 1: 1 0 1 0 1 0 1 0 1 0 1 0 1 0 1 0 1 0 2 1 | day(2, 1, 0, 20, 1) = NONE
            day(2, 1, 0, 20, 0) = 12 | day(2, 1, 0, 20, 2) = 3
            """);
        Edge.shows("10 OUTSIDE: a cell is not 0 .. 5, 11 .. 16", """
            text r6;p1s;p1s;p1s;p1s;p1s;p1s = 6 | row 2 2: -1 6 7 10 17 MIN MAX 0 1 5 11 16 | day(2, 2, 0, 1, 1) = OUTSIDE
            day(2, 2, 1, 1, 1) = OUTSIDE | day(2, 2, 2, 1, 1) = OUTSIDE | day(2, 2, 3, 1, 1) = OUTSIDE
            day(2, 2, 4, 1, 1) = OUTSIDE | day(2, 2, 5, 1, 1) = OUTSIDE | day(2, 2, 6, 1, 1) = OUTSIDE
            day(2, 2, 7, 1, 1) = NONE | day(2, 2, 8, 1, 1) = 0 | day(2, 2, 9, 1, 1) = 0 | day(2, 2, 10, 1, 1) = NONE
            day(2, 2, 11, 1, 1) = NONE | day(2, 2, 7, 2, 1) = NONE
            """);
        Edge.shows("10 OUTSIDE: a cell, behind an act that can't be, too", """
            text r6;p1s = 1 | row 2 2: 5 6 | day(2, 2, 0, 2, 1) = OUTSIDE | day(2, 2, 0, 2, 0) = OUTSIDE
            day(2, 2, 0, 1, 1) = 0
            """);
    }

    private static void promise10OrderOfRefusals() {
        Edge.shows("10 UNKNOWN: SHEET, ahead of OUTSIDE: lane, n, what, with no PIECE, too", """
            day(-1, -1, 0, -1, -1) = UNKNOWN | day(4, 3, 0, 21, 5) = UNKNOWN | day(MIN, 0, 0, 0, 0) = UNKNOWN
            day(MAX, 0, 0, 0, 0) = UNKNOWN | text r6;p1s = 1 | day(-1, -1, 0, -1, -1) = UNKNOWN | day(4, 3, 0, 21, 5) = UNKNOWN
            """);
        Edge.shows("10 OUTSIDE: lane, n, what, ahead of the FAULTS", """
            day(0, -1, 0, 0, 0) = OUTSIDE | day(0, 3, 0, 0, 0) = OUTSIDE | day(0, 0, 0, -1, 0) = OUTSIDE
            day(0, 0, 0, 21, 0) = OUTSIDE | day(0, 0, 0, 0, 5) = OUTSIDE | day(0, 0, 0, 0, 9) = OUTSIDE
            day(0, 0, 0, 0, 17) = OUTSIDE | day(0, 0, 0, 0, -1) = OUTSIDE | day(0, MIN, 0, 0, 0) = OUTSIDE
            day(0, MAX, 0, 0, 0) = OUTSIDE | row 1 1: 1 | day(1, 2, 5, 21, 0) = OUTSIDE | day(1, 0, -1, 1, 5) = OUTSIDE
            day(1, 1, 0, -1, 0) = OUTSIDE
            """);
        Edge.shows("10 FAULTS ahead of STATE: there is no PIECE", """
            day(0, 0, 0, 0, 0) = NULL | row 0 0: 9 | day(0, 1, 0, 0, 0) = CAST | day(0, 0, 2, 0, 0) = INDEX
            day(0, 0, 0, 2, 0) = INDEX | day(0, 0, 0, 1, 0) = STATE | day(0, 0, 1, 0, 0) = STATE
            """);
        Edge.shows("10 STATE: there is no PIECE, ahead of OUTSIDE: a cell", """
            row 0 0: 9 1 | day(0, 0, 0, 1, 1) = STATE | day(0, 0, 1, 1, 1) = STATE | day(0, 0, 0, 0, 2) = STATE
            """);
    }

    private static void promise10OrderOfFaults() {
        Edge.shows("10 CAST ahead of INDEX", """
            text r6;p1s = 1 | row 1 1: 1 | day(1, 0, -1, 0, 0) = CAST | day(1, 2, 9, 9, 0) = CAST | day(1, 0, 0, 1, 0) = CAST
            day(1, 0, 0, 0, 0) = CAST | row 1 2: | day(1, 1, 0, 0, 0) = CAST
            """);
        Edge.shows("10 NULL ahead of INDEX", """
            text r6;p1s = 1 | day(1, 0, -1, 0, 0) = NULL | day(2, 1, 9, 20, 0) = NULL | day(3, 2, 0, 0, 0) = NULL | lose(0) = 1
            day(0, 0, 0, 0, 1) = NULL | day(0, 1, 0, 0, 1) = NULL
            """);
        Edge.shows("10 INDEX: cells from i on, if none of them is taken, too", """
            text r6;p1s = 1 | row 1 1: 1 1 | day(1, 1, -1, 0, 1) = INDEX | day(1, 1, 3, 0, 1) = INDEX
            day(1, 1, MIN, 0, 1) = INDEX | day(1, 1, MAX, 0, 1) = INDEX | day(1, 1, 2, 0, 1) = NONE | day(1, 1, 0, 0, 1) = NONE
            day(1, 1, 0, 3, 1) = INDEX | day(1, 1, 1, 2, 1) = INDEX | day(1, 1, 2, 1, 1) = INDEX | day(1, 1, -1, 1, 1) = INDEX
            day(1, 1, -1, 3, 1) = INDEX | day(1, 1, MAX, 20, 1) = INDEX | day(1, 1, 0, 2, 1) = NONE | row 1 1:
            day(1, 1, 0, 0, 1) = NONE | day(1, 1, 1, 0, 1) = INDEX | day(1, 1, -1, 0, 1) = INDEX | day(1, 1, 0, 1, 1) = INDEX
            """);
    }

    private static void promise10Last() {
        Edge.shows("10 a DAY upon sixty loops, and upon six ROUNDS", """
            text r6;p1iccc;p1i;p1s;p1s;p1s;p1s = 6 | row 2 0: 0 3 16 | day(2, 0, 0, 1, 0) = 60 | day(2, 0, 0, 2, 0) = 30
            day(2, 0, 0, 3, 3) = 60 | day(2, 0, 2, 1, 3) = 120 | day(2, 0, 0, 0, 16) = 60 | day(2, 0, 1, 1, 1) = 0
            """);
    }
}
