/** The sentences of Terms 3 and of promises 11 to 13 that name a boundary case, one by one. */
public final class ComingEdgesTest {
    public static void main(String[] args) {
        plans();
        promise11();
        promise11Order();
        promise12();
        promise12Order();
        promise13();
        Due.end();
    }

    private static void plans() {
        Edge.shows("Terms 3 PLANS: 0 .. 4: that SIGN alone; 5 and 5 x and y: SIGN x, SIGN y: the first of several", """
            text r8;p1s = 1 | fewest(8, 0) = NONE | fewest(16, 0) = 1 | fewest(4, 0) = 2 | fewest(12, 0) = 6
            fewest(24, 0) = 13 | fewest(2, 0) = 2 | fewest(2, 1) = 2 | text r6;p1s = 1 | fewest(9, 0) = 6 | fewest(4, 0) = 7
            fewest(3, 0) = 2 | fewest(2, 0) = 19 | fewest(18, 0) = 13
            """);
        Edge.shows("Terms 3 however many ROUNDS there are: upon six, too", """
            text r8;p1s;p1s;p1s;p1s;p1s;p1s = 6 | fewest(1, -1) = 3 | fewest(1, 0) = 2 | fewest(1, 1) = 2 | fewest(1, 2) = 2
            fewest(16, -1) = 1 | ways(1, 16) = 3 | ways(0, 8) = 1
            """);
        Edge.shows("Terms 3 NONE: by none: 7 does not come of 60", """
            text r6;p1iccc;p1i = 2 | fewest(7, -1) = NONE | fewest(7, 0) = NONE | fewest(7, 9) = NONE | fewest(60, -1) = 0
            """);
        Edge.shows("Terms 3 each COMING OUT: upon one loop, no d, nothing less", """
            text r3;p1dk = 1 | fewest(1, -1) = 0 | fewest(1, 0) = NONE | fewest(2, 0) = 1 | fewest(3, -1) = 1
            fewest(3, 0) = 13 | fewest(4, -1) = 2 | ways(1, 1) = 2
            """);
    }

    private static void promise11() {
        Edge.shows("11 FEWEST to v loops (1 .. 60): the least and the most", """
            text r6;p1s = 1 | fewest(1, -1) = 2 | fewest(60, -1) = NONE | fewest(48, -1) = 3 | text r5;p1s = 1
            fewest(60, -1) = 3 | fewest(60, 0) = 1 | fewest(60, 1) = 1 | fewest(60, 2) = 13 | fewest(1, -1) = NONE
            """);
        Edge.shows("11 how many ROUNDS (k -1): none, as there are so many; NONE: there are not so many", """
            text r6;p1i = 1 | fewest(12, -1) = 0 | fewest(12, 0) = NONE | fewest(12, 9) = NONE | fewest(24, -1) = 1
            fewest(24, 0) = 1 | fewest(24, 1) = NONE | fewest(24, 9) = NONE | fewest(1, -1) = 3 | fewest(1, 2) = 19
            fewest(1, 3) = NONE
            """);
        Edge.shows("11 upon the last ROUND, as it is now", """
            text r6;p1i = 1 | fewest(6, -1) = 1 | ravel(1) = 0 | fewest(6, -1) = 0 | fewest(12, -1) = 1 | row 1 0: 1
            puton(0, 1, 1, 0, 0, 1) = 12 | fewest(6, -1) = 1 | fewest(6, 0) = 2 | text r4;p1s = 1 | fewest(4, -1) = 0
            fewest(6, 0) = 6 | text r3;p1s = 1 | fewest(3, -1) = 0 | fewest(4, -1) = 2 | fewest(4, 0) = 1 | fewest(4, 1) = 7
            fewest(4, 2) = NONE
            """);
    }

    private static void promise11Order() {
        Edge.shows("11 OUTSIDE: v (1 .. 60), k (-1 .. 9)", """
            text r6;p1i = 1 | fewest(0, -1) = OUTSIDE | fewest(61, -1) = OUTSIDE | fewest(-1, -1) = OUTSIDE
            fewest(MIN, -1) = OUTSIDE | fewest(MAX, -1) = OUTSIDE | fewest(1, -2) = OUTSIDE | fewest(1, 10) = OUTSIDE
            fewest(1, MIN) = OUTSIDE | fewest(1, MAX) = OUTSIDE | fewest(60, -2) = OUTSIDE | fewest(1, -1) = 3
            fewest(1, 9) = NONE | fewest(60, 9) = NONE | fewest(60, 0) = NONE
            """);
        Edge.shows("11 OUTSIDE, ahead of STATE: there is no PIECE", """
            fewest(0, -1) = OUTSIDE | fewest(61, 0) = OUTSIDE | fewest(1, -2) = OUTSIDE | fewest(1, 10) = OUTSIDE
            fewest(1, -1) = STATE | fewest(60, 9) = STATE
            """);
    }

    private static void promise12() {
        Edge.shows("12 WAYS of n ROUNDS (0 .. 5): none", """
            text r6;p1i = 1 | ways(0, 12) = 1 | ways(0, 1) = 0 | ways(0, 60) = 0 | ways(0, 6) = 0 | ravel(1) = 0
            ways(0, 6) = 1 | ways(0, 12) = 0
            """);
        // To 4: kc, ck, ss, ik, ki, dc, cd; to 2: sk, ks, dd; to 8: sc, cs, ii; to 6: si, is; to 12: ic, ci.
        Edge.shows("12 PLANS of two SIGNS alone, each by itself", """
            text r4;p1s = 1 | ways(1, 4) = 7 | ways(1, 2) = 3 | ways(1, 8) = 3 | ways(1, 6) = 2 | ways(1, 12) = 2
            ways(1, 1) = 0 | ways(1, 3) = 0 | ways(1, 16) = 0
            """);
        Edge.shows("12 WAYS of n ROUNDS (0 .. 5): five", """
            text r6;p1i = 1 | ways(5, 12) = 528606 | ways(5, 1) = 26492 | ways(2, 12) = 115 | ways(3, 12) = 1775
            ways(4, 12) = 29978
            """);
        // To 60: the seven as above, and id, di; to 30: sk, ks, dd.
        Edge.shows("12 v loops (1 .. 60): sixty", """
            text r6;p1iccc;p1i = 2 | ways(0, 60) = 1 | ways(1, 60) = 9 | ways(1, 30) = 3 | ways(1, 1) = 0
            """);
        Edge.shows("12 upon the last ROUND, as it is now", """
            text r4;p1s = 1 | ways(1, 8) = 3 | row 1 0: 1 | puton(0, 1, 1, 0, 0, 1) = 8 | ways(1, 8) = 7 | ways(1, 4) = 3
            ravel(1) = 1 | ways(1, 8) = 3 | text r8;p1s = 1 | ways(0, 8) = 1
            """);
    }

    private static void promise12Order() {
        Edge.shows("12 LOST: OUTSIDE: n (0 .. 5), v (1 .. 60)", """
            text r6;p1i = 1 | ways(-1, 12) = LOST | ways(6, 12) = LOST | ways(MIN, 12) = LOST | ways(MAX, 12) = LOST
            ways(0, 0) = LOST | ways(0, 61) = LOST | ways(5, -1) = LOST | ways(5, MIN) = LOST | ways(5, MAX) = LOST
            ways(5, 60) = 0 | ways(0, 1) = 0
            """);
        Edge.shows("12 LOST: STATE: there is no PIECE", """
            ways(0, 1) = LOST | ways(5, 60) = LOST | text r6;p1c = -201 | ways(0, 6) = LOST
            """);
    }

    private static void promise13() {
        Edge.shows("13 of a ROUND (from 0 on): UNKNOWN", """
            bare(0) = UNKNOWN | text r6;p1i = 1 | bare(-1) = UNKNOWN | bare(2) = UNKNOWN | bare(MIN) = UNKNOWN
            bare(MAX) = UNKNOWN | bare(0) = 0 | bare(1) = 12 | ravel(1) = 0 | bare(1) = UNKNOWN | bare(0) = 6
            """);
        Edge.shows("13 no loop of the ROUND above STANDS IN (all of the last one): none, some, all but one", """
            text r8;p1s;p1sk;p1kkks = 3 | bare(0) = 0 | bare(1) = 4 | bare(2) = 3 | bare(3) = 1 | ravel(1) = 2 | bare(2) = 4
            ravel(1) = 1 | bare(1) = 8
            """);
        Edge.shows("13 all but those that c is worked into: c stands in none", """
            text r4;p1kkkc;p1s = -201 | text r4;p1kc = 1 | bare(0) = 4 | bare(1) = 4 | loops(1) = 4 | loop(1, 0, 4) = 0
            odds(0, 0) = 0 | odds(3, 1) = 1
            """);
        Edge.shows("13 of sixty", """
            text r6;p1iccc;p1i;p1s = 3 | bare(2) = 0 | bare(3) = 60 | ravel(1) = 2 | row 1 0: 4 4 4 4 0
            puton(0, 1, 1, 0, 0, 5) = 12 | bare(2) = 48 | bare(3) = 12
            """);
        Edge.shows("13 of the sixth", """
            text r6;p1s;p1s;p1s;p1s;p1s;p1sk = 6 | bare(5) = 3 | bare(6) = 3 | bare(7) = UNKNOWN | bare(4) = 0
            """);
    }
}
