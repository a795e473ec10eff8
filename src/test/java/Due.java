/** What the project's tests share: answers that are due, and short ways to fill SHEETS. */
final class Due {
    private static int asked = 0;
    private static int wrong = 0;

    private Due() {
    }

    static void is(String call, long got, long want) {
        asked++;
        if (got != want) {
            wrong++;
            System.out.println(call + " answered " + got + ", due is " + want);
        }
    }

    static void holds(String what, boolean so) {
        is(what, so ? 1 : 0, 1);
    }

    /** Ends a test: exit code 1 if an answer was not the one that is due. */
    static void end() {
        System.out.println(wrong == 0 ? asked + " answers are as due" : wrong + " of " + asked + " answers are not as due");
        if (wrong != 0 || asked == 0) {
            System.exit(1);
        }
    }

    /** A SHEET gets a row of just these numbers. */
    static void row(LoopRounds x, int sheet, int lane, int... cells) {
        is("sheet", x.sheet(sheet, lane, cells.length), 1);
        for (int i = 0; i < cells.length; i++) {
            is("put", x.put(sheet, i, cells[i]), 1);
        }
    }

    static void text(LoopRounds x, int sheet, int lane, String codes) {
        row(x, sheet, lane, codes.chars().toArray());
    }

    /** What piece answers to a TEXT; it is written on SHEET 0 as bytes. */
    static int piece(LoopRounds x, String codes) {
        text(x, 0, 0, codes);
        return x.piece(0, 0, 0, codes.length());
    }

    /** A new object with a PIECE that must be taken. */
    static LoopRounds made(String codes) {
        LoopRounds x = new LoopRounds();
        holds("piece " + codes, piece(x, codes) > 0);
        return x;
    }

    /** What puton answers to a ROUND of these SIGNS; they are written on SHEET 1 as ints. */
    static int puton(LoopRounds x, int kind, int spun, int... signs) {
        row(x, 1, 2, signs);
        return x.puton(kind, spun, 1, 2, 0, signs.length);
    }

    /** What day answers of these acts; they are written on SHEET 2 as shorts. */
    static int day(LoopRounds x, int what, int... acts) {
        row(x, 2, 1, acts);
        return x.day(2, 1, 0, acts.length, what);
    }

    interface Call {
        long on(LoopRounds x);
    }

    /**
     * A call that answers so, and so once more. That it changes nothing else is asked in the Edges tests, of two objects:
     * one could not be asked for everything within its 512 calls.
     */
    static void unchanging(LoopRounds x, String name, Call call, long want) {
        is(name, call.on(x), want);
        is(name + " once more", call.on(x), want);
    }

    /** A call that names FAULTS, is refused or faulted, and leaves this in fault(). */
    static void faulting(LoopRounds x, String name, Call call, long want, int fault) {
        unchanging(x, name, call, want);
        raise(x, fault == 4 ? 3 : 4);
        is(name, call.on(x), want);
        is(name + ", then fault()", x.fault(), fault);
        is(name + ", then fault() again", x.fault(), fault);
    }

    /** Another FAULT ahead of a call, so that one left standing is seen. */
    static void raise(LoopRounds x, int fault) {
        if (fault == 4) {
            is("sheet(3, 0, -1)", x.sheet(3, 0, -1), -14);
        } else {
            is("sheet(3, 0, 0)", x.sheet(3, 0, 0), 1);
            is("put(3, 0, 0)", x.put(3, 0, 0), -13);
            is("lose(3)", x.lose(3), 1);
        }
    }
}
