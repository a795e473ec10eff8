/** The sentences of Terms 5, of REFUSALS and FAULTS, and of promises 20 to 30 that name a boundary case, one by one. */
public final class SheetsEdgesTest {
    public static void main(String[] args) {
        refusalsAndFaults();
        lanes();
        promise20();
        promise21();
        promise22();
        promise23();
        promise24();
        promise24Order();
        promise24Index();
        promise25();
        promise26();
        promise27();
        promise28();
        promise29();
        promise29Calls();
        promise30();
        theLastCall();
        Due.end();
    }

    private static void refusalsAndFaults() {
        Edge.shows("Terms REFUSALS change nothing (but fault(), of a call that names FAULTS)", """
            fault() = 0 | put(0, 0, 0) = NULL | fault() = 1 | loops(0) = UNKNOWN | fault() = 1 | lose(4) = UNKNOWN | fault() = 1
            many(4) = OUTSIDE | fault() = 1 | ravel(0) = STATE | fault() = 1 | put(4, 0, 0) = UNKNOWN | fault() = 0
            sheet(0, 0, -1) = SIZE | fault() = 4 | sheet(0, 3, -1) = OUTSIDE | fault() = 0 | put(0, 0, 0) = NULL
            puton(0, 1, 0, 0, 0, 1) = STATE | fault() = 0
            """);
        Edge.shows("Terms FAULTS: -10 less it, and fault() tells it: 1 NULL, 2 CAST, 3 INDEX, 4 SIZE", """
            put(0, 0, 0) = -11 | fault() = 1 | row 0 0: 1 | row 1 1: 1 | copy(0, 0, 1, 0, 1) = -12 | fault() = 2
            put(0, 1, 0) = -13 | fault() = 3 | sheet(0, 0, -1) = -14 | fault() = 4 | cell(2, 0, 0) = LOST NULL | fault() = 1
            cell(0, 0, 1) = LOST CAST | fault() = 2 | cell(0, 1, 0) = LOST INDEX | fault() = 3
            """);
    }

    private static void lanes() {
        Edge.shows("Terms 5 what comes to a cell of it is cut to its LANE: 0 bytes", """
            row 0 0: 127 128 255 256 -128 -129 MAX MIN | cell(0, 0, 0) = 127 | cell(0, 1, 0) = -128 | cell(0, 2, 0) = -1
            cell(0, 3, 0) = 0 | cell(0, 4, 0) = -128 | cell(0, 5, 0) = 127 | cell(0, 6, 0) = -1 | cell(0, 7, 0) = 0
            """);
        Edge.shows("Terms 5 what comes to a cell of it is cut to its LANE: 1 shorts", """
            row 0 1: 32767 32768 65535 65536 -32768 -32769 MAX MIN 128 | cell(0, 0, 1) = 32767 | cell(0, 1, 1) = -32768
            cell(0, 2, 1) = -1 | cell(0, 3, 1) = 0 | cell(0, 4, 1) = -32768 | cell(0, 5, 1) = 32767 | cell(0, 6, 1) = -1
            cell(0, 7, 1) = 0 | cell(0, 8, 1) = 128
            """);
        Edge.shows("Terms 5 what comes to a cell of it is cut to its LANE: 2 ints", """
            row 0 2: MAX MIN -1 65536 | cell(0, 0, 2) = 2147483647 | cell(0, 1, 2) = -2147483648 | cell(0, 2, 2) = -1
            cell(0, 3, 2) = 65536
            """);
        Edge.shows("Terms 5 SHEETS 0 .. 3, each by itself", """
            row 0 0: 1 | row 1 1: 2 | row 2 2: 3 | row 3 0: 4 | cell(0, 0, 0) = 1 | cell(1, 0, 1) = 2 | cell(2, 0, 2) = 3
            cell(3, 0, 0) = 4 | lose(2) = 1 | cell(2, 0, 2) = LOST NULL | cell(1, 0, 1) = 2 | cell(3, 0, 0) = 4
            """);
    }

    private static void promise20() {
        Edge.shows("20 UNKNOWN, ahead of OUTSIDE and SIZE", """
            sheet(-1, 0, 1) = UNKNOWN | sheet(4, 0, 1) = UNKNOWN | sheet(-1, 3, 61) = UNKNOWN | sheet(4, 0, -1) = UNKNOWN
            sheet(MIN, 0, 0) = UNKNOWN | sheet(MAX, 0, 0) = UNKNOWN | sheet(0, 0, 1) = 1 | sheet(3, 2, 1) = 1
            """);
        Edge.shows("20 OUTSIDE: lane, n above 60, ahead of SIZE", """
            sheet(0, -1, 1) = OUTSIDE | sheet(0, 3, 1) = OUTSIDE | sheet(0, 0, 61) = OUTSIDE | sheet(0, 0, MAX) = OUTSIDE
            sheet(0, 3, -1) = OUTSIDE | sheet(0, -1, -1) = OUTSIDE | sheet(0, MIN, 1) = OUTSIDE | sheet(0, MAX, 1) = OUTSIDE
            lose(0) = 0 | sheet(0, 2, 60) = 1 | cell(0, 59, 2) = 0 | cell(0, 60, 2) = LOST INDEX
            """);
        Edge.shows("20 SIZE", """
            sheet(0, 0, -1) = SIZE | sheet(0, 2, MIN) = SIZE | lose(0) = 0 | row 0 1: 7 | sheet(0, 0, -1) = SIZE
            cell(0, 0, 1) = 7 | sheet(0, 0, 0) = 1 | cell(0, 0, 0) = LOST INDEX
            """);
        Edge.shows("20 A SHEET gets a new row (0 at first): shorter, longer, of another LANE", """
            row 0 2: 7 8 9 | sheet(0, 2, 2) = 1 | cell(0, 0, 2) = 0 | cell(0, 1, 2) = 0 | cell(0, 2, 2) = LOST INDEX
            put(0, 1, 5) = 1 | sheet(0, 2, 3) = 1 | cell(0, 1, 2) = 0 | cell(0, 2, 2) = 0 | put(0, 2, 300) = 1
            sheet(0, 0, 3) = 1 | cell(0, 2, 0) = 0 | cell(0, 2, 2) = LOST CAST | put(0, 2, 300) = 1 | cell(0, 2, 0) = 44
            """);
        Edge.shows("Terms 5 a row of 0 .. 60 numbers: none is a row, too", """
            sheet(0, 0, 0) = 1 | cell(0, 0, 0) = LOST INDEX | cell(0, 0, 1) = LOST CAST | put(0, 0, 1) = INDEX
            copy(0, 0, 0, 0, 0) = 0 | lose(0) = 1 | cell(0, 0, 0) = LOST NULL
            """);
    }

    private static void promise21() {
        Edge.shows("21 A SHEET has nothing: 1; 0: it had nothing", """
            lose(0) = 0 | row 0 1: 7 | lose(0) = 1 | lose(0) = 0 | put(0, 0, 1) = NULL | sheet(0, 1, 1) = 1 | cell(0, 0, 1) = 0
            row 3 0: | lose(3) = 1 | lose(3) = 0
            """);
        Edge.shows("21 UNKNOWN", """
            lose(-1) = UNKNOWN | lose(4) = UNKNOWN | lose(MIN) = UNKNOWN | lose(MAX) = UNKNOWN | row 3 0: 1 | lose(4) = UNKNOWN
            lose(3) = 1
            """);
    }

    private static void promise22() {
        Edge.shows("22 UNKNOWN, ahead of NULL and INDEX", """
            put(-1, 0, 0) = UNKNOWN | put(4, 0, 0) = UNKNOWN | put(-1, -1, 0) = UNKNOWN | put(4, 60, 0) = UNKNOWN
            put(MIN, 0, 0) = UNKNOWN | put(MAX, 0, 0) = UNKNOWN
            """);
        Edge.shows("22 NULL, ahead of INDEX", """
            put(0, 0, 0) = NULL | put(0, -1, 0) = NULL | put(3, 60, 0) = NULL | put(3, MIN, 0) = NULL
            """);
        Edge.shows("22 INDEX: the first, the last cell, and beyond", """
            row 0 1: 5 6 | put(0, -1, 9) = INDEX | put(0, 2, 9) = INDEX | put(0, MIN, 9) = INDEX | put(0, MAX, 9) = INDEX
            cell(0, 0, 1) = 5 | cell(0, 1, 1) = 6 | put(0, 0, 7) = 1 | put(0, 1, 8) = 1 | cell(0, 0, 1) = 7 | cell(0, 1, 1) = 8
            sheet(1, 2, 60) = 1 | put(1, 59, 4) = 1 | put(1, 60, 4) = INDEX | cell(1, 59, 2) = 4
            """);
        Edge.shows("22 Cell i of a SHEET becomes v, none of another", """
            row 0 1: 5 6 7 | row 1 1: 5 6 7 | put(0, 1, -9) = 1 | cell(0, 0, 1) = 5 | cell(0, 1, 1) = -9 | cell(0, 2, 1) = 7
            cell(1, 1, 1) = 6
            """);
    }

    private static void promise23() {
        Edge.shows("23 LOST: UNKNOWN, OUTSIDE: lane: refused, so fault() is 0", """
            cell(-1, 0, 0) = LOST | cell(4, 0, 0) = LOST | cell(MIN, 0, 0) = LOST | cell(MAX, 0, 0) = LOST | put(0, 0, 0) = NULL
            cell(4, 0, 3) = LOST | fault() = 0 | put(0, 0, 0) = NULL | cell(0, 0, -1) = LOST | fault() = 0 | put(0, 0, 0) = NULL
            cell(0, 0, 3) = LOST | fault() = 0 | cell(0, 0, MIN) = LOST | cell(0, 0, MAX) = LOST | row 0 1: 5
            put(0, 1, 0) = INDEX | cell(0, 9, 3) = LOST | fault() = 0
            """);
        Edge.shows("23 CAST, ahead of INDEX", """
            row 0 1: 5 | cell(0, 0, 0) = LOST CAST | cell(0, 0, 2) = LOST CAST | cell(0, -1, 0) = LOST CAST
            cell(0, 1, 2) = LOST CAST | row 1 0: 5 | cell(1, 0, 1) = LOST CAST | row 2 2: 5 | cell(2, 0, 1) = LOST CAST
            cell(2, 0, 0) = LOST CAST | cell(2, 0, 2) = 5
            """);
        Edge.shows("23 nothing is no CAST: NULL, ahead of INDEX", """
            cell(0, 0, 0) = LOST NULL | cell(0, 0, 1) = LOST NULL | cell(0, -1, 2) = LOST NULL | cell(3, 60, 0) = LOST NULL
            row 0 1: 5 | lose(0) = 1 | cell(0, 0, 2) = LOST NULL
            """);
        Edge.shows("23 INDEX: the first, the last cell, and beyond", """
            row 0 1: 5 6 | cell(0, -1, 1) = LOST INDEX | cell(0, 2, 1) = LOST INDEX | cell(0, MIN, 1) = LOST INDEX
            cell(0, MAX, 1) = LOST INDEX | cell(0, 0, 1) = 5 | cell(0, 1, 1) = 6
            """);
        Edge.shows("23 a cell may be as a refusal or a FAULT is told, and is none", """
            row 0 2: -1 -13 -9 | put(0, 3, 0) = INDEX | cell(0, 1, 2) = -13 | fault() = 0 | cell(0, 0, 2) = -1
            cell(0, 2, 2) = -9
            """);
    }

    private static void promise24() {
        Edge.shows("24 n cells go to another one, as they were: n: none, one, all", """
            row 0 2: 1 2 3 | row 1 2: 7 8 9 | copy(0, 0, 1, 0, 0) = 0 | cell(1, 0, 2) = 7 | copy(0, 2, 1, 0, 1) = 1
            cell(1, 0, 2) = 3 | cell(1, 1, 2) = 8 | copy(0, 0, 1, 0, 3) = 3 | cell(1, 0, 2) = 1 | cell(1, 1, 2) = 2
            cell(1, 2, 2) = 3 | cell(0, 0, 2) = 1 | copy(1, 0, 0, 2, 1) = 1 | cell(0, 2, 2) = 1 | cell(1, 2, 2) = 3
            """);
        Edge.shows("24 perhaps the same, as they were: up", """
            row 0 1: 1 2 3 4 5 | copy(0, 0, 0, 2, 3) = 3 | cell(0, 0, 1) = 1 | cell(0, 1, 1) = 2 | cell(0, 2, 1) = 1
            cell(0, 3, 1) = 2 | cell(0, 4, 1) = 3
            """);
        Edge.shows("24 perhaps the same, as they were: down", """
            row 0 0: 1 2 3 4 5 | copy(0, 2, 0, 0, 3) = 3 | cell(0, 0, 0) = 3 | cell(0, 1, 0) = 4 | cell(0, 2, 0) = 5
            cell(0, 3, 0) = 4 | cell(0, 4, 0) = 5 | copy(0, 0, 0, 0, 5) = 5 | cell(0, 4, 0) = 5
            """);
        Edge.shows("24 all sixty", """
            sheet(0, 2, 60) = 1 | sheet(1, 2, 60) = 1 | put(0, 59, 9) = 1 | copy(0, 0, 1, 0, 60) = 60 | cell(1, 59, 2) = 9
            copy(0, 0, 1, 0, 61) = INDEX | copy(0, 1, 1, 0, 60) = INDEX
            """);
    }

    private static void promise24Order() {
        Edge.shows("24 UNKNOWN: the first, the other, ahead of NULL", """
            copy(-1, 0, 0, 0, 0) = UNKNOWN | copy(4, 0, 0, 0, 0) = UNKNOWN | copy(0, 0, -1, 0, 0) = UNKNOWN
            copy(0, 0, 4, 0, 0) = UNKNOWN | copy(MIN, -1, MAX, -1, -1) = UNKNOWN | row 0 0: 1 | copy(0, 0, 4, 0, 1) = UNKNOWN
            copy(4, 0, 0, 0, 1) = UNKNOWN | copy(0, 5, -1, 5, -1) = UNKNOWN
            """);
        Edge.shows("24 NULL (the first, the other), ahead of CAST and INDEX", """
            copy(0, 0, 1, 0, 0) = NULL | copy(0, -1, 0, -1, -1) = NULL | row 0 1: 5 | copy(0, -1, 1, 0, 1) = NULL
            copy(1, 0, 0, 9, 1) = NULL | copy(0, 0, 1, 0, -1) = NULL | row 1 2: 5 | lose(1) = 1 | copy(0, 0, 1, 0, 1) = NULL
            copy(1, 0, 0, 0, 1) = NULL
            """);
        Edge.shows("24 CAST (unlike LANES), ahead of INDEX", """
            row 0 0: 1 | row 1 1: 1 | row 2 2: 1 | copy(0, 0, 1, 0, 1) = CAST | copy(1, 0, 0, 0, 1) = CAST
            copy(2, 0, 1, 0, 0) = CAST | copy(0, -1, 2, 9, -1) = CAST | copy(2, 0, 0, 0, 1) = CAST
            """);
    }

    private static void promise24Index() {
        Edge.shows("24 INDEX: i, j, n below 0", """
            row 0 0: 1 2 | row 1 0: 3 4 5 | copy(0, -1, 1, 0, 1) = INDEX | copy(0, 0, 1, -1, 1) = INDEX
            copy(0, 0, 1, 0, -1) = INDEX | copy(0, -1, 1, 0, 0) = INDEX | copy(0, 0, 1, -1, 0) = INDEX
            copy(0, MIN, 1, 0, 0) = INDEX | copy(0, 0, 1, MIN, 0) = INDEX | copy(0, 0, 1, 0, MIN) = INDEX
            copy(0, 1, 1, 1, -1) = INDEX
            """);
        Edge.shows("24 INDEX: i, j, n beyond", """
            row 0 0: 1 2 | row 1 0: 3 4 5 | copy(0, 0, 1, 0, 3) = INDEX | copy(0, 1, 1, 0, 2) = INDEX
            copy(0, 2, 1, 0, 1) = INDEX | copy(1, 0, 0, 0, 3) = INDEX | copy(0, 0, 1, 2, 2) = INDEX
            copy(0, 0, 1, 3, 1) = INDEX | copy(0, 3, 1, 0, 0) = INDEX | copy(0, 0, 1, 4, 0) = INDEX | copy(0, 2, 1, 3, 0) = 0
            copy(0, 0, 1, 1, 2) = 2 | copy(1, 1, 0, 0, 2) = 2 | copy(0, MAX, 1, 0, 1) = INDEX | copy(0, 0, 1, MAX, 1) = INDEX
            copy(0, 0, 1, 0, MAX) = INDEX | copy(0, 1, 1, 1, MAX) = INDEX | copy(0, MAX, 1, MAX, MAX) = INDEX
            copy(0, MIN, 1, MIN, MAX) = INDEX
            """);
    }

    private static void promise25() {
        Edge.shows("25 TELLING of a ROUND (from 1 on): UNKNOWN", """
            tell(1) = UNKNOWN | text r6;p1s = 1 | tell(0) = UNKNOWN | tell(2) = UNKNOWN | tell(-1) = UNKNOWN
            tell(MIN) = UNKNOWN | tell(MAX) = UNKNOWN | trace() = 0 | tell(1) = 1 | trace() = 1 | ravel(1) = 0
            tell(1) = UNKNOWN | trace() = 1
            """);
        Edge.shows("Terms 5 PLAIN (1): SPUN: the least and the most", """
            text r6;p1s = 1 | tell(1) = 1 | trace() = 1 | spun(1, 9) = 1 | tell(1) = 9 | trace() = 32
            """);
        Edge.shows("Terms 5 BRUSHED (2): what PLAIN's gives, and 100", """
            text r6;b1s = 1 | tell(1) = 101 | trace() = 63 | spun(1, 9) = 1 | tell(1) = 109 | trace() = 60606
            """);
        Edge.shows("Terms 5 TWINED (3): what BRUSHED's gives, and what PLAIN's gives (BRUSHED's left out)", """
            text r6;t1s = 1 | tell(1) = 102 | trace() = 91327 | spun(1, 9) = 1 | tell(1) = 118 | trace() = -1556852226
            """);
        Edge.shows("25 of the sixth, that is put on", """
            text r6;p1s;p1s;p1s;p1s;p1s = 5 | row 1 0: 0 | puton(2, 4, 1, 0, 0, 1) = 6 | tell(6) = 108 | tell(7) = UNKNOWN
            trace() = 91327
            """);
    }

    private static void promise26() {
        Edge.shows("26 How it is TUGGED: UNKNOWN", """
            tug(1) = UNKNOWN | text r6;p1s = 1 | tug(0) = UNKNOWN | tug(2) = UNKNOWN | tug(-1) = UNKNOWN | tug(MIN) = UNKNOWN
            tug(MAX) = UNKNOWN | trace() = 0 | tug(1) = 1 | trace() = 4
            """);
        Edge.shows("Terms 5 by a lent body (4): how many SIGNS it has: one, five", """
            text r5;p9s;b9sssss = 2 | tug(1) = 1 | trace() = 4 | tug(2) = 5 | trace() = 128
            """);
        Edge.shows("Terms 5 TWINED ones have their own (5): 50", """
            text r5;t9s;t9sssss = 2 | tug(1) = 50 | trace() = 5 | tug(2) = 50 | trace() = 160
            """);
    }

    private static void promise27() {
        Edge.shows("27 A ROUND (from 1 on): UNKNOWN, ahead of OUTSIDE", """
            as(1, 0) = UNKNOWN | as(1, 3) = UNKNOWN | text r6;p1s = 1 | as(0, 0) = UNKNOWN | as(2, 0) = UNKNOWN
            as(-1, 3) = UNKNOWN | as(MIN, 0) = UNKNOWN | as(MAX, -1) = UNKNOWN | ravel(1) = 0 | as(1, 0) = UNKNOWN
            """);
        Edge.shows("27 OUTSIDE, ahead of CAST", """
            text r6;p1s = 1 | as(1, -1) = OUTSIDE | as(1, 3) = OUTSIDE | as(1, MIN) = OUTSIDE | as(1, MAX) = OUTSIDE
            as(1, 2) = CAST
            """);
        Edge.shows("27 CAST: it is none (each is a PLAIN one, too; a TWINED one is a BRUSHED one)", """
            text r6;p1s;b1s;t1s = 3 | as(1, 0) = 1 | as(1, 1) = CAST | as(1, 2) = CAST | as(2, 0) = 1 | as(2, 1) = 1
            as(2, 2) = CAST | as(3, 0) = 1 | as(3, 1) = 1 | as(3, 2) = 1
            """);
        Edge.shows("27 fault() behind each", """
            text r6;p1s = 1 | as(1, 1) = CAST | fault() = 2 | as(1, 0) = 1 | fault() = 0 | as(1, 2) = CAST | as(1, 3) = OUTSIDE
            fault() = 0 | as(1, 2) = CAST | as(0, 0) = UNKNOWN | fault() = 0
            """);
    }

    private static void promise28() {
        Edge.shows("28 TRACE: 0 at first", """
            trace() = 0 | text r6;p1s = 1 | trace() = 0 | tell(2) = UNKNOWN | tug(0) = UNKNOWN | trace() = 0
            """);
        Edge.shows("Terms 5 an int that wraps: below 0, and above it again", """
            text r6;p1s = 1 | tug(1) = 1 | tug(1) = 1 | tug(1) = 1 | tug(1) = 1 | tug(1) = 1 | tug(1) = 1 | trace() = 118333824
            tug(1) = 1 | trace() = -626618748 | tug(1) = 1 | trace() = 2049655296 | tug(1) = 1 | trace() = -885195260
            tell(1) = 1 | trace() = -1671249283
            """);
        Edge.shows("28 nothing but TELLING and TUGGED leaves a number", """
            text r6;p1s;b1s = 2 | tell(1) = 1 | as(2, 1) = 1 | as(1, 1) = CAST | ofRound(2, 2) = 2 | reading(1, 6) = 0
            kinds(1) = 1 | spun(1, 2) = 1 | ravel(1) = 1 | trace() = 1
            """);
    }

    private static void promise29() {
        Edge.shows("29 0 ahead of any", """
            fault() = 0 | loops(0) = UNKNOWN | fault() = 0 | trace() = 0 | lose(9) = UNKNOWN | fault() = 0
            """);
        Edge.shows("29 it came to none", """
            put(0, 0, 0) = NULL | fault() = 1 | fault() = 1 | sheet(0, 0, 1) = 1 | fault() = 0 | put(0, 1, 0) = INDEX
            put(0, 0, 0) = 1 | fault() = 0 | put(0, 1, 0) = INDEX | cell(0, 0, 0) = 0 | fault() = 0 | put(0, 1, 0) = INDEX
            copy(0, 0, 0, 0, 0) = 0 | fault() = 0 | put(0, 1, 0) = INDEX | piece(0, 0, 0, 1) = -100 | fault() = 0
            """);
        Edge.shows("29 it came to none: a TEXT that is no TEXT, that does not COME OUT, that is taken; a DAY", """
            put(3, 0, 0) = NULL | text r6;p1 = -105 | put(3, 0, 0) = NULL | piece(0, 0, 0, 5) = -105 | fault() = 0
            text r6;p1k = -201 | put(3, 0, 0) = NULL | piece(0, 0, 0, 6) = -201 | fault() = 0 | text r6;p1s = 1
            put(3, 0, 0) = NULL | piece(0, 0, 0, 6) = 1 | fault() = 0 | row 1 0: 0 0 | put(3, 0, 0) = NULL
            day(1, 0, 0, 2, 0) = -101 | fault() = 0 | put(3, 0, 0) = NULL | day(1, 0, 0, 1, 3) = NONE | fault() = 0
            put(3, 0, 0) = NULL | puton(0, 1, 1, 0, 0, 1) = 6 | fault() = 0
            """);
        Edge.shows("29 or was refused", """
            text r6;p1s = 1 | row 1 0: 9 3 | put(3, 0, 0) = NULL | puton(0, 1, 1, 0, 0, 1) = OUTSIDE | fault() = 0
            put(3, 0, 0) = NULL | puton(0, 1, 1, 0, 1, 1) = STATE | fault() = 0 | put(3, 0, 0) = NULL
            day(1, 0, 0, 1, 0) = OUTSIDE | fault() = 0 | put(3, 0, 0) = NULL | copy(4, 0, 0, 0, 0) = UNKNOWN | fault() = 0
            put(3, 0, 0) = NULL | piece(0, 3, 0, 0) = OUTSIDE | fault() = 0 | put(3, 0, 0) = NULL | sheet(0, 0, 61) = OUTSIDE
            fault() = 0 | put(3, 0, 0) = NULL | puton(3, 1, 0, 0, 0, 1) = OUTSIDE | fault() = 0
            """);
    }

    private static void promise29Calls() {
        Edge.shows("29 the latest call that names one: those that name none leave it", """
            text r6;p1s;p1s = 2 | put(3, 0, 0) = NULL | ofRound(1, 0) = 0 | loops(0) = 6 | sign(1, 0) = 0 | loop(1, 0, 0) = 0
            spun(1, 1) = 1 | ravel(1) = 1 | fewest(6, -1) = 0 | ways(0, 6) = 1 | bare(0) = 0 | reading(1, 6) = 0 | back(1) = 0
            rings() = 504 | kinds(1) = 7 | signings(1, 0) = 7 | odds(0, 0) = 1 | lose(3) = 0 | tell(1) = 1 | tug(1) = 1
            trace() = 35 | many(0) = 1 | fault() = 1 | ofRound(9, 0) = UNKNOWN | spun(1, 0) = OUTSIDE | reading(9, 0) = UNKNOWN
            ways(9, 9) = LOST | odds(9, 9) = LOST | lose(0) = 1 | fault() = 1
            """);
    }

    private static void promise30() {
        Edge.shows("30 OUTSIDE", """
            many(-1) = OUTSIDE | many(4) = OUTSIDE | many(MIN) = OUTSIDE | many(MAX) = OUTSIDE | text r6;p1s = 1
            many(-1) = OUTSIDE | many(4) = OUTSIDE
            """);
        Edge.shows("30 0 all without a PIECE", """
            many(0) = 0 | many(1) = 0 | many(2) = 0 | many(3) = 0 | text r6;p1k = -201 | many(0) = 0 | many(1) = 0 | many(2) = 0
            many(3) = 0
            """);
        Edge.shows("30 loops of the last one (of the RING, if there is no other), of all together (with the RING)", """
            text r6;p1i;p1d;p1sk = 3 | many(0) = 3 | many(1) = 3 | many(2) = 27 | ravel(2) = 1 | many(1) = 12 | many(2) = 18
            ravel(1) = 0 | many(0) = 0 | many(1) = 6 | many(2) = 6
            """);
        Edge.shows("30 loops of all six ROUNDS together, the RING with them", """
            text r8;p1iccc;p1s;p1s;p1s;p1s;p1s = 6 | many(1) = 40 | many(2) = 248 | many(0) = 6
            """);
        Edge.shows("30 READINGS: none, eight", """
            text r6;p1s = 1 | many(3) = 0 | reading(1, 1) = 0 | reading(1, 1) = 1 | reading(1, 1) = 2 | reading(1, 1) = 3
            reading(1, 1) = 4 | reading(1, 1) = 5 | reading(1, 1) = 6 | reading(1, 1) = 7 | many(3) = 8 | ravel(1) = 0
            many(3) = 8 | back(8) = 0 | many(3) = 0
            """);
    }

    /** "An object is used for at most 512 calls": the 512th is answered as any other. */
    private static void theLastCall() {
        LoopRounds x = new LoopRounds();
        String text = "r6;t1s";
        x.sheet(0, 0, text.length());
        for (int i = 0; i < text.length(); i++) {
            x.put(0, i, text.charAt(i));
        }
        x.piece(0, 0, 0, text.length());
        int trace = 0;
        for (int call = text.length() + 2; call < 511; call++) {
            Due.is("tug, call " + (call + 1), x.tug(1), 50);
            trace = 31 * trace + 5;
        }
        Due.is("trace, call 512", x.trace(), trace);
    }
}
