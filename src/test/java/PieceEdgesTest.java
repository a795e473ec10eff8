import java.util.regex.Matcher;
import java.util.regex.Pattern;

/** The sentences of Terms 1 and of promises 1 to 7 that name a boundary case, one by one. */
public final class PieceEdgesTest {
    private static final Pattern TEXT = Pattern.compile("r[3-8](;[pbt][1-9][sidck]{1,5}){1,6}");
    private static final String LONGEST = "r5;p1sssss;b9kiksi;t9sssss;p5iskss;b1kiiks;t2sssss";

    public static void main(String[] args) {
        promise1NewObject();
        textRing();
        textRounds();
        textSpun();
        textSigns();
        textEndsTooSoon();
        textOtherCodes();
        textKinds();
        textMakesAllAnew();
        comesOutUsedUp();
        comesOutOneToSixty();
        wideAndGirth();
        curl();
        promise2Answers();
        promise2Order();
        promise3();
        promise4();
        promise5();
        promise6();
        promise6What();
        promise7();
        everyCodeInEveryPlace();
        everyRowOfSigns();
        Due.end();
    }

    private static void promise1NewObject() {
        Edge.shows("1 No PIECE (no RING, no ROUNDS)", """
            loops(0) = UNKNOWN | loops(1) = UNKNOWN | bare(0) = UNKNOWN | ofRound(1, 0) = UNKNOWN | sign(1, 0) = UNKNOWN
            loop(1, 0, 0) = UNKNOWN | spun(1, 1) = UNKNOWN | kinds(1) = UNKNOWN | signings(1, 0) = UNKNOWN
            reading(1, 0) = UNKNOWN | tell(1) = UNKNOWN | tug(1) = UNKNOWN | as(1, 0) = UNKNOWN | odds(0, 0) = LOST
            odds(0, 1) = LOST | rings() = STATE | ravel(0) = STATE | fewest(1, -1) = STATE | fewest(60, 9) = STATE
            ways(0, 1) = LOST | ways(5, 60) = LOST | puton(0, 1, 0, 0, 0, 1) = STATE | many(0) = 0 | many(1) = 0 | many(2) = 0
            many(3) = 0
            """);
        Edge.shows("1 SHEETS have nothing", """
            put(0, 0, 0) = NULL | put(1, 0, 0) = NULL | put(2, 0, 0) = NULL | put(3, 0, 0) = NULL
            cell(0, 0, 0) = LOST NULL | cell(1, 0, 1) = LOST NULL | cell(2, 0, 2) = LOST NULL | cell(3, 0, 0) = LOST NULL
            lose(0) = 0 | lose(1) = 0 | lose(2) = 0 | lose(3) = 0
            piece(0, 0, 0, 0) = NULL | day(3, 2, 0, 0, 0) = NULL | copy(0, 0, 0, 0, 0) = NULL
            """);
    }

    private static void textRing() {
        Edge.shows("Terms 1 r, a digit 3 .. 8: the least and the most", """
            text r3;p1s = 1 | loops(0) = 3 | text r8;p1s = 1 | loops(0) = 8
            text r2;p1s = -101 | loops(0) = 8 | text r9;p1s = -101 | loops(0) = 8
            text r0;p1s = -101 | text r1;p1s = -101 | text r/;p1s = -101 | text r:;p1s = -101
            """);
        Edge.shows("Terms 1 r: nothing else begins a TEXT", """
            text q6;p1s = -100 | text s6;p1s = -100 | text R6;p1s = -100 | text 6;p1s = -100 | text ;p1s = -100 | many(1) = 0
            """);
    }

    private static void textRounds() {
        Edge.shows("Terms 1 then 1 to 6 ROUNDS: none", "text r6 = -102 | text r6; = -103 | many(1) = 0");
        Edge.shows("Terms 1 then 1 to 6 ROUNDS: one, six", """
            text r6;p1s = 1 | many(0) = 1 | text r6;p1s;p1s;p1s;p1s;p1s;p1s = 6 | many(0) = 6 | loops(6) = 6
            loops(7) = UNKNOWN
            """);
        Edge.shows("Terms 1 FIRST FAULT: the ; of a seventh ROUND", """
            text r6;p1s;p1s;p1s;p1s;p1s;p1s;p1s = -126 | many(0) = 0 | text r6;p1s;p1s;p1s;p1s;p1s;p1s; = -126
            text r6;p1s;p1s;p1s;p1s;p1s;p1s = 6
            """);
        Edge.shows("Terms 1 each: ; ahead of it", """
            text r6p1s = -102 | text r6:p1s = -102 | text r6;p1s:p1s = -106 | text r6;;p1s = -103
            """);
    }

    private static void textSpun() {
        Edge.shows("Terms 1 a digit 1 .. 9 (SPUN): the least and the most", """
            text r6;p1s = 1 | ofRound(1, 1) = 1 | text r6;p9s = 1 | ofRound(1, 1) = 9
            text r6;p0s = -104 | text r6;p:s = -104 | text r6;p/s = -104 | ofRound(1, 1) = 9
            """);
        Edge.shows("Terms 1 a digit: one alone", "text r6;p11s = -105 | text r6;ps = -104 | text r66;p1s = -102");
    }

    private static void textSigns() {
        Edge.shows("Terms 1 then 1 to 5 SIGNS: none", """
            text r6;p1 = -105 | text r6;p1; = -105 | text r6;p1;p1s = -105 | text r6;p1s;p1 = -109
            """);
        Edge.shows("Terms 1 then 1 to 5 SIGNS: one, five", """
            text r5;p1s = 1 | ofRound(1, 3) = 1 | text r5;p1sssss = 1 | ofRound(1, 3) = 5
            text r5;p1sssss;p1sssss = 2 | ofRound(2, 3) = 5
            """);
        Edge.shows("Terms 1 FIRST FAULT: a sixth SIGN", """
            text r6;p1ssssss = -110 | text r6;p1s;p1ssssss = -114 | text r6;p1ssssss;x = -110 | many(0) = 0
            text r6;p1s;p1s;p1s;p1s;p1s;p1ssssss = -130
            """);
        Edge.shows("Terms 1 SIGNS by numbers", """
            text r5;p1sidck = 1 | sign(1, 0) = 0 | sign(1, 1) = 1 | sign(1, 2) = 2 | sign(1, 3) = 3 | sign(1, 4) = 4
            """);
    }

    private static void textEndsTooSoon() {
        StringBuilder rows = new StringBuilder();
        String text = "r6;p1si;b2ssi";
        for (int length = 0; length < text.length(); length++) {
            boolean ends = length == 6 || length == 7 || length == 11 || length == 12;
            // Upon the 9 loops of si, s comes out and ss does not.
            int due = !ends ? -100 - length : length < 8 ? 1 : length == 11 ? 2 : -202;
            rows.append("piece(3, 1, 0, ").append(length).append(") = ").append(due).append('\n');
        }
        Edge.shows("Terms 1 how many codes there are, if it just ends too soon",
            "row 3 1: 114 54 59 112 49 115 105 59 98 50 115 115 105\n" + rows);
        Edge.shows("Terms 1 it just ends too soon, of no codes, in a row of none, too", """
            row 0 0: | piece(0, 0, 0, 0) = -100 | row 0 0: 114 | piece(0, 0, 0, 0) = -100 | piece(0, 0, 1, 0) = -100
            piece(0, 0, 0, 1) = -101
            """);
        Edge.shows("Terms 1 too soon in the sixth ROUND", """
            text r6;p1s;p1s;p1s;p1s;p1s; = -123 | text r6;p1s;p1s;p1s;p1s;p1s;p = -124 | text r6;p1s;p1s;p1s;p1s;p1s;p1 = -125
            """);
    }

    private static void textOtherCodes() {
        Edge.shows("Terms 1 Codes are whole numbers: none is cut, but by its LANE", """
            row 1 2: 114 54 59 112 49 371 | piece(1, 2, 0, 6) = -105 | row 1 1: 114 54 59 112 49 371 | piece(1, 1, 0, 6) = -105
            row 1 0: 114 54 59 112 49 371 | piece(1, 0, 0, 6) = 1
            row 1 2: 65650 54 59 112 49 115 | piece(1, 2, 0, 6) = -100 | row 1 1: 65650 54 59 112 49 115 | piece(1, 1, 0, 6) = 1
            row 1 2: 114 MIN | piece(1, 2, 0, 2) = -101 | row 1 2: 114 MAX | piece(1, 2, 0, 2) = -101
            row 1 2: 114 54 59 112 MIN | piece(1, 2, 0, 5) = -104 | row 1 2: -114 | piece(1, 2, 0, 1) = -100
            """);
        Edge.shows("Terms 1 the place is the TEXT's own, from 0 on", """
            row 1 2: 9 9 114 54 59 112 49 115 9 | piece(1, 2, 2, 6) = 1 | piece(1, 2, 2, 7) = -106 | piece(1, 2, 1, 7) = -100
            piece(1, 2, 8, 1) = -100
            """);
    }

    private static void textKinds() {
        Edge.shows("Terms 1 Kinds: PLAIN (p), BRUSHED (b), TWINED (t), none else", """
            text r6;p1s;b1s;t1s = 3 | ofRound(1, 0) = 0 | ofRound(2, 0) = 1 | ofRound(3, 0) = 2 | text r6;q1s = -103
            text r6;c1s = -103 | text r6;s1s = -103 | text r6;u1s = -103 | text r6;a1s = -103 | text r6;o1s = -103
            text r6;P1s = -103 | text r6;01s = -103
            """);
    }

    private static void textMakesAllAnew() {
        Edge.shows("Terms 1 A TEXT that is taken makes all anew: no READINGS", """
            text r6;p1i;b2si;t1sd = 3 | reading(1, 12) = 0 | reading(2, 1) = 1 | text r8;t9s = 1 | many(3) = 0 | many(0) = 1
            many(2) = 16 | loops(2) = UNKNOWN | rings() = 504 | kinds(1) = 7 | ofRound(1, 0) = 2 | ofRound(1, 1) = 9
            loop(1, 7, 4) = 128 | bare(0) = 0 | back(1) = OUTSIDE
            """);
        Edge.shows("Terms 1 A TEXT that is not taken leaves all", """
            text r6;p1i;b2si = 2 | reading(1, 12) = 0 | text r7;p1s;p1 = -109 | many(3) = 1 | loops(0) = 6
            text r7;p1s;p1d = -202 | many(3) = 1 | loops(0) = 6 | loops(2) = 18 | piece(0, 1, 0, 1) = CAST
            piece(0, 0, 0, -1) = SIZE | piece(3, 0, 0, 1) = NULL | many(3) = 1
            """);
    }

    private static void comesOutUsedUp() {
        Edge.shows("Terms 1 just all loops of the ROUND below are used up: too many, too few, just", """
            text r4;p1sss = -201 | text r3;p1ssss = -201 | text r3;p1sss = 1 | ofRound(1, 5) = 1 | text r6;p1sss = 1
            ofRound(1, 5) = 2 | text r8;p1sss = -201 | text r3;p1d = -201 | text r5;p1d = -201 | text r7;p1d = -201
            text r4;p1d = 1 | loops(1) = 2
            """);
        Edge.shows("Terms 1 c: one into none: c alone never uses them up", """
            text r3;p1c = -201 | text r3;p1ccccc = -201 | text r3;p1sc = 1 | loops(1) = 6 | ofRound(1, 5) = 3
            """);
        Edge.shows("Terms 1 k: the next one is left out, and used up", """
            text r4;p1sk = 1 | loops(1) = 2 | text r3;p1sk = -201 | text r5;p1kkkks = 1 | loops(1) = 1
            """);
        Edge.shows("Terms 1 -200 less the first ROUND that does not COME OUT: the first, the last", """
            text r6;p1c;p1c = -201 | text r6;p1s;p1s;p1s;p1s;p1s;p1k = -206 | text r6;p1s;p1k;p1s;p1s;p1s;p1k = -202
            many(1) = 0
            """);
    }

    private static void comesOutOneToSixty() {
        Edge.shows("Terms 1 there are 1 to 60 loops in it: none", """
            text r3;p1k = -201 | text r3;p1kkk = -201 | text r3;p1s;p1k = -202
            """);
        Edge.shows("Terms 1 there are 1 to 60 loops in it: 1", """
            text r3;p1dk = 1 | loops(1) = 1 | text r8;p1d;p1d;p1d = 3 | loops(3) = 1
            """);
        Edge.shows("Terms 1 there are 1 to 60 loops in it: 60", """
            text r6;p1iccc;p1i = 2 | loops(1) = 30 | loops(2) = 60 | text r6;p1iccc;p1i;p1s = 3 | loops(3) = 60
            text r6;p1iccc;p1i;p1s;p1s;p1s;p1s = 6 | loops(6) = 60
            """);
        Edge.shows("Terms 1 there are 1 to 60 loops in it: more", """
            text r7;p1ic;p1ic = -202 | text r8;p1i;p1i;p1i = -203 | text r6;p1iccc;p1i;p1si = -203 | text r6;p1iccc;p1ic = -202
            many(1) = 0
            """);
    }

    private static void wideAndGirth() {
        Edge.shows("Terms 1 WIDE: by kinds, of the least and the most SPUN", """
            text r3;p1s;b1s;t1s = 3 | ofRound(1, 2) = 1 | ofRound(2, 2) = 2 | ofRound(3, 2) = 2
            spun(1, 9) = 1 | spun(2, 9) = 1 | spun(3, 9) = 1 | ofRound(1, 2) = 9 | ofRound(2, 2) = 10 | ofRound(3, 2) = 18
            """);
        Edge.shows("Terms 1 GIRTH of a ROUND: its loops times WIDE: the least and the most", """
            text r3;p1dk = 1 | ofRound(1, 6) = 1 | text r6;t9iccc;t9i = 2 | ofRound(1, 6) = 540 | ofRound(2, 6) = 1080
            """);
        Edge.shows("Terms 1 OUT: WIDE of it and of all ROUNDS below it together", """
            text r3;t9s;t9s;t9s;t9s;t9s;t9s = 6 | ofRound(1, 7) = 18 | ofRound(5, 7) = 90 | ofRound(6, 7) = 108
            ravel(5) = 1 | ofRound(1, 7) = 18 | ofRound(2, 7) = UNKNOWN
            """);
    }

    private static void curl() {
        Edge.shows("Terms 1 CURL: FLAT (0), if that is 0; CUPPED (-1), if it is less; RUFFLED (1)", """
            text r6;p1s = 1 | ofRound(1, 8) = 0 | text r5;p1s = 1 | ofRound(1, 8) = -1 | text r7;p1s = 1 | ofRound(1, 8) = 1
            text r6;t9s = 1 | ofRound(1, 8) = 0
            """);
        Edge.shows("Terms 1 CURL: by one alone", """
            text r7;p1s;p5s = 2 | ofRound(2, 6) = 35 | ofRound(2, 7) = 6 | ofRound(2, 8) = -1 | spun(2, 6) = 5
            ofRound(2, 8) = 0 | spun(2, 7) = 6 | ofRound(2, 6) = 49 | ofRound(2, 7) = 8 | ofRound(2, 8) = 1 | ofRound(1, 8) = 1
            """);
    }

    private static void promise2Answers() {
        Edge.shows("2 how many ROUNDS (without the RING)", """
            text r6;p1s = 1 | text r6;p1s;p1s = 2 | text r6;p1s;p1s;p1s;p1s;p1s;p1s = 6
            """);
        Edge.shows("2 n cells of a SHEET from i on: up to the last of sixty", """
            sheet(3, 2, 60) = 1 | put(3, 54, 114) = 1 | put(3, 55, 51) = 1 | put(3, 56, 59) = 1 | put(3, 57, 112) = 1
            put(3, 58, 49) = 1 | put(3, 59, 115) = 1 | piece(3, 2, 54, 6) = 1 | piece(3, 2, 54, 7) = INDEX
            piece(3, 2, 55, 6) = INDEX | piece(3, 2, 60, 0) = -100 | piece(3, 2, 61, 0) = INDEX | piece(3, 2, 0, 60) = -100
            piece(3, 2, 0, 61) = INDEX
            """);
        Edge.shows("2 -100 less the FIRST FAULT comes ahead of -200 less a ROUND", """
            text r6;p1c;p = -108 | text r6;p1c;p1 = -109 | text r6;p1c;p1s = -201
            """);
    }

    private static void promise2Order() {
        Edge.shows("2 UNKNOWN ahead of OUTSIDE: lane", """
            piece(-1, -1, 0, 0) = UNKNOWN | piece(4, 3, 0, 0) = UNKNOWN | piece(MIN, 0, 0, 0) = UNKNOWN
            piece(MAX, 0, 0, 0) = UNKNOWN
            """);
        Edge.shows("2 OUTSIDE: lane, ahead of the FAULTS", """
            piece(0, -1, -1, -1) = OUTSIDE | piece(0, 3, -1, -1) = OUTSIDE | piece(3, MIN, 0, 0) = OUTSIDE
            piece(3, MAX, 0, 0) = OUTSIDE | row 1 1: 5 | piece(1, 3, -1, -1) = OUTSIDE | piece(1, -1, -1, -1) = OUTSIDE
            """);
        Edge.shows("2 CAST ahead of SIZE and INDEX", """
            row 1 1: 5 | piece(1, 0, 0, -1) = CAST | piece(1, 2, 9, 1) = CAST | piece(1, 0, 0, 1) = CAST | row 1 0:
            piece(1, 1, 0, 0) = CAST
            """);
        Edge.shows("2 nothing is no CAST: NULL, ahead of SIZE and INDEX", """
            piece(0, 0, 0, -1) = NULL | piece(0, 1, 9, 9) = NULL | piece(0, 2, 0, 0) = NULL | row 1 1: 5 | lose(1) = 1
            piece(1, 0, 0, 1) = NULL
            """);
        Edge.shows("2 SIZE: n is below 0, ahead of INDEX", """
            row 1 1: 5 | piece(1, 1, 0, -1) = SIZE | piece(1, 1, -1, -1) = SIZE | piece(1, 1, 2, -1) = SIZE
            piece(1, 1, MIN, MIN) = SIZE | piece(1, 1, 0, 0) = -100
            """);
        Edge.shows("2 INDEX: not all cells are there", """
            row 1 1: 114 54 | piece(1, 1, 0, 3) = INDEX | piece(1, 1, 1, 2) = INDEX | piece(1, 1, 2, 1) = INDEX
            piece(1, 1, -1, 1) = INDEX | piece(1, 1, -1, 2) = INDEX | piece(1, 1, MAX, 1) = INDEX | piece(1, 1, 1, MAX) = INDEX
            piece(1, 1, MAX, MAX) = INDEX | piece(1, 1, MIN, MAX) = INDEX | piece(1, 1, 0, 2) = -102
            """);
        Edge.shows("2 INDEX: also where i is not 0 .. how many there are, if none of them is taken", """
            row 1 1: 114 54 | piece(1, 1, -1, 0) = INDEX | piece(1, 1, 3, 0) = INDEX | piece(1, 1, MAX, 0) = INDEX
            piece(1, 1, MIN, 0) = INDEX | piece(1, 1, 0, 0) = -100 | piece(1, 1, 2, 0) = -100 | row 1 1:
            piece(1, 1, 0, 0) = -100 | piece(1, 1, 1, 0) = INDEX | piece(1, 1, -1, 0) = INDEX
            """);
    }

    private static void promise3() {
        Edge.shows("3 Of a ROUND (from 1 on): UNKNOWN", """
            text r6;p1i;b2si = 2 | ofRound(0, 0) = UNKNOWN | ofRound(3, 0) = UNKNOWN | ofRound(-1, 0) = UNKNOWN
            ofRound(MIN, 0) = UNKNOWN | ofRound(MAX, 0) = UNKNOWN | ofRound(1, 0) = 0 | ofRound(2, 0) = 1 | ravel(1) = 1
            ofRound(2, 0) = UNKNOWN | ofRound(1, 4) = 12 | ravel(1) = 0 | ofRound(1, 0) = UNKNOWN
            """);
        Edge.shows("3 0 .. 8: OUTSIDE, behind UNKNOWN", """
            text r6;p1i;b2si = 2 | ofRound(1, -1) = OUTSIDE | ofRound(1, 9) = OUTSIDE | ofRound(2, MIN) = OUTSIDE
            ofRound(2, MAX) = OUTSIDE | ofRound(0, 9) = UNKNOWN | ofRound(3, -1) = UNKNOWN | ofRound(2, 0) = 1
            ofRound(2, 8) = 1
            """);
        Edge.shows("3 each of them", """
            text r6;p1i;b2si;t4sd;p3sk = 4 | ofRound(3, 0) = 2 | ofRound(3, 1) = 4 | ofRound(3, 2) = 8 | ofRound(3, 3) = 2
            ofRound(3, 4) = 12 | ofRound(3, 5) = 6 | ofRound(3, 6) = 96 | ofRound(3, 7) = 12 | ofRound(3, 8) = 1
            ofRound(4, 8) = -1 | ofRound(4, 7) = 15 | ofRound(4, 4) = 6
            """);
        Edge.shows("3 of the sixth", """
            text r6;p1s;p1s;p1s;p1s;p1s;b2i = 6 | ofRound(6, 0) = 1 | ofRound(6, 4) = 12 | ofRound(7, 0) = UNKNOWN
            """);
    }

    private static void promise4() {
        Edge.shows("4 loops in a ROUND (0 the RING): UNKNOWN", """
            text r8;p1d = 1 | loops(0) = 8 | loops(1) = 4 | loops(2) = UNKNOWN | loops(-1) = UNKNOWN | loops(MIN) = UNKNOWN
            loops(MAX) = UNKNOWN | ravel(1) = 0 | loops(0) = 8 | loops(1) = UNKNOWN
            """);
        Edge.shows("4 loops of all six", """
            text r8;p1d;p1d;p1d;p1i;p1i;p1i = 6 | loops(3) = 1 | loops(6) = 8 | loops(7) = UNKNOWN
            """);
    }

    private static void promise5() {
        Edge.shows("5 place i (from 0 on) of a ROUND: UNKNOWN: ROUND (from 1 on), place", """
            text r5;p1kcdis;p1cs = 2 | sign(1, 0) = 4 | sign(1, 4) = 0 | sign(1, 5) = UNKNOWN | sign(1, -1) = UNKNOWN
            sign(2, 1) = 0 | sign(2, 2) = UNKNOWN | sign(0, 0) = UNKNOWN | sign(3, 0) = UNKNOWN | sign(-1, 0) = UNKNOWN
            sign(1, MIN) = UNKNOWN | sign(1, MAX) = UNKNOWN | sign(MIN, MIN) = UNKNOWN | ravel(1) = 1 | sign(2, 0) = UNKNOWN
            """);
        Edge.shows("5 places of a ROUND that had more SIGNS", """
            text r5;p1sssss = 1 | ravel(1) = 0 | row 1 0: 0 1 | puton(0, 1, 1, 0, 0, 1) = 5 | sign(1, 0) = 0
            sign(1, 1) = UNKNOWN | text r5;p1kcdis;p1s = 2 | text r5;p1i = 1 | sign(1, 0) = 1 | sign(1, 1) = UNKNOWN
            sign(2, 0) = UNKNOWN
            """);
    }

    private static void promise6() {
        Edge.shows("6 a loop k of a ROUND (from 1 on): UNKNOWN", """
            text r6;p1i;p1d = 2 | loop(0, 0, 0) = UNKNOWN | loop(0, 0, 4) = UNKNOWN | loop(3, 0, 0) = UNKNOWN
            loop(-1, 0, 0) = UNKNOWN | loop(MIN, 0, 0) = UNKNOWN | loop(1, -1, 0) = UNKNOWN | loop(1, 12, 0) = UNKNOWN
            loop(1, MIN, 0) = UNKNOWN | loop(1, MAX, 0) = UNKNOWN | loop(1, 11, 0) = 1 | loop(1, 0, 0) = 1 | loop(2, 5, 0) = 2
            loop(2, 6, 0) = UNKNOWN | ravel(1) = 1 | loop(2, 0, 0) = UNKNOWN | loop(1, 11, 0) = 1
            """);
        Edge.shows("6 what 0 .. 4: OUTSIDE, behind UNKNOWN", """
            text r6;p1i = 1 | loop(1, 0, -1) = OUTSIDE | loop(1, 0, 5) = OUTSIDE | loop(1, 11, MIN) = OUTSIDE
            loop(1, 11, MAX) = OUTSIDE | loop(1, 12, 5) = UNKNOWN | loop(1, -1, -1) = UNKNOWN | loop(2, 0, 5) = UNKNOWN
            loop(1, 0, 4) = 1
            """);
        Edge.shows("6 the sixtieth loop, upon the sixtieth", """
            text r6;p1iccc;p1i;p1s = 3 | loop(2, 59, 0) = 1 | loop(2, 59, 1) = 29 | loop(2, 59, 2) = 29 | loop(2, 59, 3) = 1
            loop(2, 60, 0) = UNKNOWN | loop(3, 59, 1) = 59 | loop(3, 59, 2) = 59 | loop(3, 59, 4) = 0 | loop(3, 51, 4) = 32
            loop(3, 59, 3) = 0
            """);
    }

    private static void promise6What() {
        Edge.shows("6 the SIGN by which it was worked, first and last loop that it STANDS IN (NONE)", """
            text r5;p1ckdis = 1 | loop(1, 0, 0) = 3 | loop(1, 0, 1) = NONE | loop(1, 0, 2) = NONE | loop(1, 1, 0) = 2
            loop(1, 1, 1) = 1 | loop(1, 1, 2) = 2 | loop(1, 2, 0) = 1 | loop(1, 2, 1) = 3 | loop(1, 2, 2) = 3
            loop(1, 3, 0) = 1 | loop(1, 3, 1) = 3 | loop(1, 4, 0) = 0 | loop(1, 4, 1) = 4 | loop(1, 4, 2) = 4
            """);
        Edge.shows("6 how many loops of the ROUND above STAND IN it: two, one, none, and none above the last", """
            text r5;p1s;p1ckdis = 2 | loop(1, 0, 3) = 0 | loop(1, 1, 3) = 1 | loop(1, 2, 3) = 1 | loop(1, 3, 3) = 2
            loop(1, 4, 3) = 1 | loop(2, 0, 3) = 0 | loop(2, 4, 3) = 0 | ravel(1) = 1 | loop(1, 1, 3) = 0 | loop(1, 3, 3) = 0
            """);
        Edge.shows("6 how many STAND IN it, as another ROUND is put on in place of a ravelled one", """
            text r4;p1s;p1i = 2 | loop(1, 0, 3) = 2 | ravel(1) = 1 | row 1 1: 4 0 | puton(0, 1, 1, 1, 0, 2) = 2
            loop(1, 0, 3) = 0 | loop(1, 1, 3) = 1 | loop(1, 2, 3) = 0 | loop(1, 3, 3) = 1 | loop(2, 1, 1) = 3
            loop(2, 2, 0) = UNKNOWN
            """);
        Edge.shows("6 ROOTS, as a set: none, one, the eighth, all eight", """
            text r8;p1s;p1d;p1d;p1d;p1ic;p1s = 6 | loop(1, 0, 4) = 1 | loop(1, 7, 4) = 128 | loop(2, 3, 4) = 192
            loop(3, 1, 4) = 240 | loop(4, 0, 4) = 255 | loop(5, 1, 4) = 255 | loop(5, 2, 4) = 0 | loop(6, 2, 4) = 0
            loop(6, 2, 1) = 2 | loop(6, 1, 4) = 255
            """);
        Edge.shows("Terms 3 ROOTS: a loop in one with ROOTS and one without has those", """
            text r3;p1sc;p1d = 2 | loop(2, 0, 1) = 0 | loop(2, 0, 2) = 1 | loop(2, 0, 4) = 1 | loop(2, 2, 4) = 4
            """);
        Edge.shows("Terms 3 ROOTS: a loop in two that have the same ROOT has it, too", """
            text r3;p1i;p1d = 2 | loop(2, 0, 4) = 1 | loop(2, 1, 4) = 2 | loop(2, 2, 4) = 4 | odds(0, 0) = 1 | odds(0, 1) = 3
            text r4;p1i;p1sds = 2 | loop(2, 1, 4) = 3 | loop(2, 0, 4) = 1
            """);
    }

    private static void promise7() {
        Edge.shows("7 SPUN of a ROUND becomes v (1 .. 9): what it was", """
            text r6;p5i;b2si = 2 | spun(1, 1) = 5 | ofRound(1, 1) = 1 | spun(1, 9) = 1 | ofRound(1, 1) = 9 | spun(1, 9) = 9
            spun(2, 1) = 2 | ofRound(1, 1) = 9 | spun(1, 0) = OUTSIDE | spun(1, 10) = OUTSIDE | spun(1, -1) = OUTSIDE
            spun(1, MIN) = OUTSIDE | spun(1, MAX) = OUTSIDE | ofRound(1, 1) = 9
            """);
        Edge.shows("7 UNKNOWN, ahead of OUTSIDE", """
            text r6;p5i;b2si = 2 | spun(0, 1) = UNKNOWN | spun(3, 1) = UNKNOWN | spun(-1, 1) = UNKNOWN | spun(0, 0) = UNKNOWN
            spun(3, 10) = UNKNOWN | spun(MIN, 1) = UNKNOWN | spun(MAX, 1) = UNKNOWN | ravel(1) = 1 | spun(2, 1) = UNKNOWN
            spun(1, 2) = 5
            """);
        Edge.shows("7 a ROUND put on where one was spun anew has its own SPUN", """
            text r6;p5i;b2si = 2 | spun(2, 9) = 2 | ravel(1) = 1 | row 1 2: 0 | puton(1, 3, 1, 2, 0, 1) = 12 | ofRound(2, 1) = 3
            spun(2, 4) = 3
            """);
    }

    /** Each of all bytes in each place of the longest TEXT, against a pattern of what a TEXT is. */
    private static void everyCodeInEveryPlace() {
        for (int place = 0; place < LONGEST.length(); place++) {
            for (int code = -128; code < 128; code += 64) {
                LoopRounds x = new LoopRounds();
                Due.text(x, 2, 0, LONGEST);
                for (int next = code; next < code + 64; next++) {
                    x.put(2, place, next);
                    String text = LONGEST.substring(0, place) + (char) (next & 0xff) + LONGEST.substring(place + 1);
                    long got = x.piece(2, 0, 0, text.length());
                    int fault = firstFault(text);
                    boolean isDue = fault < 0 ? got == 6 || got <= -201 && got >= -206 : got == -100 - fault;
                    Due.holds("code " + next + " in place " + place + " answered " + got, isDue);
                }
            }
        }
    }

    private static int firstFault(String text) {
        for (int length = 1; length <= text.length(); length++) {
            Matcher part = TEXT.matcher(text.substring(0, length));
            if (!part.matches() && !part.hitEnd()) {
                return length - 1;
            }
        }
        return TEXT.matcher(text).matches() ? -1 : text.length();
    }

    /** Each row of one to five SIGNS upon each RING, against working it loop by loop. */
    private static void everyRowOfSigns() {
        for (int ring = 3; ring <= 8; ring++) {
            LoopRounds x = null;
            int left = 0;
            for (int row = 0; row < 5 + 25 + 125 + 625 + 3125; row++) {
                String signs = rowOfSigns(row);
                String text = "r" + ring + ";p1" + signs;
                if (left < text.length() + 5) {
                    x = new LoopRounds();
                    left = 512;
                }
                x.sheet(0, 0, text.length());
                for (int i = 0; i < text.length(); i++) {
                    x.put(0, i, text.charAt(i));
                }
                int made = worked(ring, signs);
                Due.is(text, x.piece(0, 0, 0, text.length()), made > 0 ? 1 : -201);
                Due.is(text + ": loops, if it was taken", made > 0 ? x.loops(1) : 0, made);
                left -= text.length() + 3;
            }
        }
    }

    private static String rowOfSigns(int number) {
        int length = 1;
        int left = number;
        for (int rows = 5; left >= rows; rows *= 5) {
            left -= rows;
            length++;
        }
        StringBuilder signs = new StringBuilder();
        for (int i = 0; i < length; i++) {
            signs.append("sidck".charAt(left % 5));
            left /= 5;
        }
        return signs.toString();
    }

    private static int worked(int below, String signs) {
        int used = 0;
        int made = 0;
        for (int times = 0; times < below && used < below; times++) {
            for (char sign : signs.toCharArray()) {
                used += sign == 'd' ? 2 : sign == 'c' ? 0 : 1;
                made += sign == 'i' ? 2 : sign == 'k' ? 0 : 1;
            }
        }
        return used == below && made <= 60 ? made : 0;
    }
}
