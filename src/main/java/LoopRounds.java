import java.util.Arrays;

/**
 * Rounds of loops, worked with one hook into a ring of loops and into one another.
 * The document's promises tell every call; the words in capitals are the document's terms.
 */
public final class LoopRounds {
    public static final int UNKNOWN = -1, OUTSIDE = -2, STATE = -3, FULL = -4, NONE = -9;
    public static final long LOST = Long.MIN_VALUE;

    private static final int NO_FAULT = 0, NULL = 1, CAST = 2, INDEX = 3, SIZE = 4;

    private static final int SHEETS = 4, LANES = 3, MOST_CELLS = 60;
    private static final int LEAST_RING = 3, MOST_RING = 8;
    private static final int MOST_ROUNDS = 6, MOST_SIGNS = 5, MOST_LOOPS = 60, MOST_SPUN = 9;
    private static final int PLAIN = 0, BRUSHED = 1, TWINED = 2, KINDS = 3;
    private static final int MOST_READINGS = 8, MOST_GIRTH = 1080;
    private static final int MOST_ACTS = 20, MOST_PLANS_TOLD = 10, MOST_WAYS_ROUNDS = 5;

    /** How many loops below each SIGN uses up, and how many loops it makes: s, i, d, c, k. */
    private static final int SIGNS = 5;
    private static final int[] USES = {1, 1, 2, 0, 1};
    private static final int[] MAKES = {1, 2, 1, 1, 0};

    /** PLANS: each SIGN alone, then each pair of SIGNS. */
    private static final int PLANS = SIGNS + SIGNS * SIGNS;

    private final Sheet[] sheets = new Sheet[SHEETS];
    private final Piece work = new Piece();
    /** Whatever is only tried (a DAY, another RING, kind or SIGN) is tried here, so that nothing changes. */
    private final Piece trial = new Piece();
    private final Text text = new Text();
    private final Layout layout = new Layout();
    private final Readings readings = new Readings();
    private final Plans plans = new Plans();
    private int traced = 0;
    private int latestFault = NO_FAULT;

    public LoopRounds() {
        for (int k = 0; k < SHEETS; k++) {
            sheets[k] = new Sheet();
        }
    }

    // ---- 1 the piece

    public int piece(int sheet, int lane, int i, int n) {
        if (isNoSheet(sheet)) {
            return refused(UNKNOWN);
        }
        if (isNoLane(lane)) {
            return refused(OUTSIDE);
        }
        Sheet from = sheets[sheet];
        int come = from.faultOfTaking(lane, i, n);
        if (come != NO_FAULT) {
            return faulted(come);
        }
        latestFault = NO_FAULT;
        int place = text.firstFault(from, i, n);
        if (place != NONE) {
            return -100 - place;
        }
        int notOut = text.told.firstNotOut();
        if (notOut != NONE) {
            return -200 - notOut;
        }
        work.become(text.told);
        readings.count = 0;
        layout.layAll(work);
        return work.count;
    }

    public int ofRound(int r, int what) {
        Round round = work.at(r);
        if (round == null) {
            return UNKNOWN;
        }
        switch (what) {
            case 0: return round.kind;
            case 1: return round.spun;
            case 2: return round.wide();
            case 3: return round.signCount;
            case 4: return round.loopCount;
            case 5: return round.times;
            case 6: return round.girth();
            case 7: return work.outOf(r);
            case 8: return work.curlOf(r);
            default: return OUTSIDE;
        }
    }

    public int loops(int r) {
        return work.has(r) ? work.loopsIn(r) : UNKNOWN;
    }

    public int sign(int r, int i) {
        Round round = work.at(r);
        if (round == null || !round.hasPlace(i)) {
            return UNKNOWN;
        }
        return round.signs[i];
    }

    public int loop(int r, int k, int what) {
        Round round = work.at(r);
        if (round == null || k < 0 || k >= round.loopCount) {
            return UNKNOWN;
        }
        switch (what) {
            case 0: return layout.bySign[r][k];
            case 1: return layout.first[r][k];
            case 2: return layout.last[r][k];
            case 3: return r == work.count ? 0 : layout.above[r][k];
            case 4: return layout.roots[r][k];
            default: return OUTSIDE;
        }
    }

    public int spun(int r, int v) {
        Round round = work.at(r);
        if (round == null) {
            return UNKNOWN;
        }
        if (isNoSpun(v)) {
            return OUTSIDE;
        }
        int was = round.spun;
        round.spun = v;
        return was;
    }

    // ---- 2 rounds

    public int puton(int kind, int v, int sheet, int lane, int i, int n) {
        if (isNoKind(kind) || isNoSpun(v)) {
            return refused(OUTSIDE);
        }
        if (!work.begun) {
            return refused(STATE);
        }
        if (isNoSheet(sheet)) {
            return refused(UNKNOWN);
        }
        if (isNoLane(lane) || n < 1 || n > MOST_SIGNS) {
            return refused(OUTSIDE);
        }
        Sheet from = sheets[sheet];
        int come = from.faultOfTaking(lane, i, n);
        if (come != NO_FAULT) {
            return faulted(come);
        }
        if (!areSigns(from, i, n)) {
            return refused(OUTSIDE);
        }
        Round next = work.spare();
        if (next == null) {
            return refused(FULL);
        }
        next.begin(kind, v);
        for (int place = 0; place < n; place++) {
            next.addSign(from.at(i + place));
        }
        if (!work.takesSpare()) {
            return refused(STATE);
        }
        latestFault = NO_FAULT;
        layout.layRound(work.count, next);
        return next.loopCount;
    }

    public int ravel(int n) {
        if (n < 0 || n > work.count) {
            return OUTSIDE;
        }
        if (!work.begun) {
            return STATE;
        }
        work.count -= n;
        return work.count;
    }

    public int day(int sheet, int lane, int i, int n, int what) {
        if (isNoSheet(sheet)) {
            return refused(UNKNOWN);
        }
        if (isNoLane(lane) || n < 0 || n > MOST_ACTS || isNothingOfDay(what)) {
            return refused(OUTSIDE);
        }
        Sheet from = sheets[sheet];
        int come = from.faultOfTaking(lane, i, n);
        if (come != NO_FAULT) {
            return faulted(come);
        }
        if (!work.begun) {
            return refused(STATE);
        }
        if (!areActs(from, i, n)) {
            return refused(OUTSIDE);
        }
        latestFault = NO_FAULT;
        int wrong = firstWrong(from, i, n);
        if (what == 1) {
            return wrong;
        }
        return wrong == NONE ? ofTrialDay(what) : -100 - wrong;
    }

    // ---- 3 what can come of it

    public int fewest(int v, int k) {
        if (isNoLoopCount(v) || k < -1 || k >= MOST_PLANS_TOLD) {
            return OUTSIDE;
        }
        if (!work.begun) {
            return STATE;
        }
        plans.searchFrom(work.loopsIn(work.count));
        return k == -1 ? plans.rounds[v] : plans.planTo(v, k);
    }

    public long ways(int n, int v) {
        if (n < 0 || n > MOST_WAYS_ROUNDS || isNoLoopCount(v) || !work.begun) {
            return LOST;
        }
        plans.countFrom(work.loopsIn(work.count));
        return plans.waysTo[n][v];
    }

    public int bare(int r) {
        if (!work.has(r)) {
            return UNKNOWN;
        }
        int there = work.loopsIn(r);
        if (r == work.count) {
            return there;
        }
        int bare = 0;
        for (int k = 0; k < there; k++) {
            if (layout.above[r][k] == 0) {
                bare++;
            }
        }
        return bare;
    }

    // ---- 4 girths

    public int reading(int r, int v) {
        if (work.at(r) == null) {
            return UNKNOWN;
        }
        if (v < 0 || v > MOST_GIRTH) {
            return OUTSIDE;
        }
        // Its number is how many there were ahead of it: the first is 0.
        int number = readings.count;
        return readings.add(r, v) ? number : FULL;
    }

    public int back(int n) {
        if (n < 0 || n > readings.count) {
            return OUTSIDE;
        }
        readings.count -= n;
        return readings.count;
    }

    public int rings() {
        if (!work.begun) {
            return STATE;
        }
        trial.become(work);
        int set = 0;
        for (int ring = LEAST_RING; ring <= MOST_RING; ring++) {
            trial.ring = ring;
            set |= bitIfTrialCanBe(ring);
        }
        return set;
    }

    public int kinds(int r) {
        trial.become(work);
        Round tried = trial.at(r);
        if (tried == null) {
            return UNKNOWN;
        }
        int set = 0;
        for (int kind = 0; kind < KINDS; kind++) {
            tried.kind = kind;
            set |= bitIfTrialCanBe(kind);
        }
        return set;
    }

    public int signings(int r, int i) {
        trial.become(work);
        Round tried = trial.at(r);
        if (tried == null || !tried.hasPlace(i)) {
            return UNKNOWN;
        }
        int set = 0;
        for (int sign = 0; sign < SIGNS; sign++) {
            tried.signs[i] = sign;
            set |= bitIfTrialCanBe(sign);
        }
        return set;
    }

    public long odds(int k, int which) {
        if (!work.begun || k < 0 || k >= work.ring || which < 0 || which > 1) {
            return LOST;
        }
        int all = work.loopsIn(work.count);
        int those = 0;
        for (int loop = 0; loop < all; loop++) {
            those += layout.roots[work.count][loop] >> k & 1;
        }
        return which == 0 ? inLeastTerms(those, all) : inLeastTerms(all, those);
    }

    // ---- 5 sheets, parts

    public int sheet(int k, int lane, int n) {
        if (isNoSheet(k)) {
            return refused(UNKNOWN);
        }
        if (isNoLane(lane) || n > MOST_CELLS) {
            return refused(OUTSIDE);
        }
        if (n < 0) {
            return faulted(SIZE);
        }
        latestFault = NO_FAULT;
        sheets[k].lay(lane, n);
        return 1;
    }

    public int lose(int k) {
        if (isNoSheet(k)) {
            return UNKNOWN;
        }
        int had = sheets[k].filled ? 1 : 0;
        sheets[k].filled = false;
        return had;
    }

    public int put(int k, int i, int v) {
        if (isNoSheet(k)) {
            return refused(UNKNOWN);
        }
        Sheet on = sheets[k];
        if (!on.filled) {
            return faulted(NULL);
        }
        if (on.lacks(i, 1)) {
            return faulted(INDEX);
        }
        latestFault = NO_FAULT;
        on.cells[i] = on.cut(v);
        return 1;
    }

    public long cell(int k, int i, int lane) {
        latestFault = NO_FAULT;
        if (isNoSheet(k) || isNoLane(lane)) {
            return LOST;
        }
        latestFault = sheets[k].faultOfTaking(lane, i, 1);
        return latestFault == NO_FAULT ? sheets[k].at(i) : LOST;
    }

    public int copy(int k, int i, int other, int j, int n) {
        if (isNoSheet(k) || isNoSheet(other)) {
            return refused(UNKNOWN);
        }
        Sheet from = sheets[k];
        Sheet to = sheets[other];
        if (!from.filled || !to.filled) {
            return faulted(NULL);
        }
        if (from.lane != to.lane) {
            return faulted(CAST);
        }
        if (from.lacks(i, n) || to.lacks(j, n)) {
            return faulted(INDEX);
        }
        latestFault = NO_FAULT;
        System.arraycopy(from.cells, i, to.cells, j, n);
        return n;
    }

    public int tell(int r) {
        Round round = work.at(r);
        if (round == null) {
            return UNKNOWN;
        }
        switch (round.kind) {
            case TWINED: return tellTwined(round.spun);
            case BRUSHED: return tellBrushed(round.spun);
            default: return tellPlain(round.spun);
        }
    }

    public int tug(int r) {
        Round round = work.at(r);
        if (round == null) {
            return UNKNOWN;
        }
        return round.kind == TWINED ? tugTwined() : tugLent(round.signCount);
    }

    public int as(int r, int kind) {
        Round round = work.at(r);
        if (round == null) {
            return refused(UNKNOWN);
        }
        if (isNoKind(kind)) {
            return refused(OUTSIDE);
        }
        // Each kind is also all the kinds numbered below it.
        if (kind > round.kind) {
            return faulted(CAST);
        }
        latestFault = NO_FAULT;
        return 1;
    }

    public int trace() {
        return traced;
    }

    public int fault() {
        return latestFault;
    }

    public int many(int what) {
        switch (what) {
            case 0: return work.count;
            case 1: return work.begun ? work.loopsIn(work.count) : 0;
            case 2: return work.begun ? work.loopsInAll() : 0;
            case 3: return readings.count;
            default: return OUTSIDE;
        }
    }

    // ---- what the calls share

    /** A refusal of a call that names FAULTS: it came to none. */
    private int refused(int refusal) {
        latestFault = NO_FAULT;
        return refusal;
    }

    private int faulted(int come) {
        latestFault = come;
        return -10 - come;
    }

    private static boolean isNoSheet(int k) {
        return k < 0 || k >= SHEETS;
    }

    private static boolean isNoLane(int lane) {
        return lane < 0 || lane >= LANES;
    }

    private static boolean isNoKind(int kind) {
        return kind < 0 || kind >= KINDS;
    }

    private static boolean isNoSpun(int v) {
        return v < 1 || v > MOST_SPUN;
    }

    private static boolean isNoLoopCount(int v) {
        return v < 1 || v > MOST_LOOPS;
    }

    private static boolean isNothingOfDay(int what) {
        return what < 0 || what > 10 + MOST_ROUNDS || what > 4 && what < 10;
    }

    private static boolean areSigns(Sheet from, int i, int n) {
        for (int place = 0; place < n; place++) {
            int sign = from.at(i + place);
            if (sign < 0 || sign >= SIGNS) {
                return false;
            }
        }
        return true;
    }

    private static boolean areActs(Sheet from, int i, int n) {
        for (int place = 0; place < n; place++) {
            int act = from.at(i + place);
            if (act < 0 || act > 10 + MOST_ROUNDS || act > SIGNS && act <= 10) {
                return false;
            }
        }
        return true;
    }

    /** Works a DAY out on the trial piece, as far as it can be: its FIRST WRONG, or NONE. */
    private int firstWrong(Sheet from, int i, int n) {
        trial.become(work);
        for (int place = 0; place < n; place++) {
            if (!trial.doesAct(from.at(i + place))) {
                return place;
            }
        }
        return NONE;
    }

    private int ofTrialDay(int what) {
        Round last = trial.at(trial.count);
        switch (what) {
            case 0: return trial.loopsIn(trial.count);
            case 2: return trial.count;
            case 3: return last == null ? NONE : last.girth();
            case 4: return trial.outOf(trial.count);
            default: return trial.has(what - 10) ? trial.loopsIn(what - 10) : NONE;
        }
    }

    private int bitIfTrialCanBe(int bit) {
        return trial.firstNotOut() == NONE && readings.areSo(trial) ? 1 << bit : 0;
    }

    /** A number of a share, by what both its numbers can be divided; one may be 0, none is above MOST_LOOPS. */
    private static int inLeastTerms(int number, int other) {
        for (int divisor = MOST_LOOPS; divisor > 1; divisor--) {
            if (number % divisor == 0 && other % divisor == 0) {
                return number / divisor;
            }
        }
        return number;
    }

    private void leaveInTrace(int body) {
        traced = 31 * traced + body;
    }

    private int tellPlain(int spun) {
        leaveInTrace(1);
        return spun;
    }

    private int tellBrushed(int spun) {
        leaveInTrace(2);
        return tellPlain(spun) + 100;
    }

    private int tellTwined(int spun) {
        leaveInTrace(3);
        int brushed = tellBrushed(spun);
        return brushed + tellPlain(spun);
    }

    private int tugLent(int signCount) {
        leaveInTrace(4);
        return signCount;
    }

    private int tugTwined() {
        leaveInTrace(5);
        return 50;
    }

    /** How many loops come of working a row of SIGNS again and again into so many; 0: it does not COME OUT. */
    private static int loopsUpon(int below, int uses, int makes) {
        if (uses < 1 || below % uses != 0) {
            return 0;
        }
        int made = below / uses * makes;
        return made > MOST_LOOPS ? 0 : made;
    }

    /** A ROUND from 1 on: its yarn, its SIGNS, and how they came out upon the ROUND below. */
    private static final class Round {
        int kind;
        int spun;
        int signCount;
        final int[] signs = new int[MOST_SIGNS];
        int times;
        int loopCount;

        void begin(int itsKind, int itsSpun) {
            kind = itsKind;
            spun = itsSpun;
            signCount = 0;
        }

        boolean addSign(int sign) {
            if (signCount >= MOST_SIGNS || sign < 0 || sign >= SIGNS) {
                return false;
            }
            signs[signCount] = sign;
            signCount++;
            return true;
        }

        boolean hasPlace(int i) {
            return i >= 0 && i < signCount;
        }

        void become(Round other) {
            kind = other.kind;
            spun = other.spun;
            signCount = other.signCount;
            System.arraycopy(other.signs, 0, signs, 0, MOST_SIGNS);
            times = other.times;
            loopCount = other.loopCount;
        }

        /** Works it into so many loops: whether it COMES OUT. */
        boolean comesOutUpon(int below) {
            int uses = 0;
            int makes = 0;
            for (int i = 0; i < signCount; i++) {
                uses += USES[signs[i]];
                makes += MAKES[signs[i]];
            }
            loopCount = loopsUpon(below, uses, makes);
            times = uses > 0 ? below / uses : 0;
            return loopCount > 0;
        }

        int wide() {
            switch (kind) {
                case TWINED: return 2 * spun;
                case BRUSHED: return spun + 1;
                default: return spun;
            }
        }

        int girth() {
            return loopCount * wide();
        }
    }

    /** A RING and the ROUNDS upon it; the Round objects beyond count are spare. */
    private static final class Piece {
        boolean begun = false;
        int ring = 0;
        int count = 0;
        final Round[] rounds = new Round[MOST_ROUNDS];

        Piece() {
            for (int r = 0; r < MOST_ROUNDS; r++) {
                rounds[r] = new Round();
            }
        }

        boolean has(int r) {
            return begun && r >= 0 && r <= count;
        }

        /** ROUND r, from 1 on; null: there is none. */
        Round at(int r) {
            return has(r) && r > 0 ? rounds[r - 1] : null;
        }

        /** The Round object that is put on next; null: there are six. */
        Round spare() {
            return count < MOST_ROUNDS ? rounds[count] : null;
        }

        /** Puts the spare ROUND on, if it COMES OUT. */
        boolean takesSpare() {
            Round next = spare();
            if (next == null || !next.comesOutUpon(loopsIn(count))) {
                return false;
            }
            count++;
            return true;
        }

        void become(Piece other) {
            begun = other.begun;
            ring = other.ring;
            count = other.count;
            for (int r = 0; r < count; r++) {
                rounds[r].become(other.rounds[r]);
            }
        }

        int loopsIn(int r) {
            return r < 1 || r > count ? ring : rounds[r - 1].loopCount;
        }

        int loopsInAll() {
            int all = 0;
            for (int r = 0; r <= count; r++) {
                all += loopsIn(r);
            }
            return all;
        }

        /** Works all ROUNDS anew: the first that does not COME OUT, or NONE. */
        int firstNotOut() {
            for (int r = 1; r <= count; r++) {
                if (!rounds[r - 1].comesOutUpon(loopsIn(r - 1))) {
                    return r;
                }
            }
            return NONE;
        }

        int outOf(int r) {
            int out = 0;
            for (int below = 0; below < r && below < count; below++) {
                out += rounds[below].wide();
            }
            return out;
        }

        int curlOf(int r) {
            Round round = at(r);
            int over = (round == null ? 0 : round.girth()) - 6 * outOf(r);
            return over == 0 ? 0 : over < 0 ? -1 : 1;
        }

        /** Does an act of a DAY; false: it can't be. */
        boolean doesAct(int act) {
            if (act == 0) {
                return ravelsLast();
            }
            return act > 10 ? spinsMore(act - 10) : putsOnAlone(act - 1);
        }

        private boolean ravelsLast() {
            if (count < 1) {
                return false;
            }
            count--;
            return true;
        }

        private boolean spinsMore(int r) {
            Round round = at(r);
            if (round == null || round.spun >= MOST_SPUN) {
                return false;
            }
            round.spun++;
            return true;
        }

        private boolean putsOnAlone(int sign) {
            Round next = spare();
            if (next == null) {
                return false;
            }
            next.begin(PLAIN, 1);
            return next.addSign(sign) && takesSpare();
        }
    }

    /** Takes the codes of a TEXT one by one into a piece of its own, as far as they can follow one another. */
    private static final class Text {
        private static final int RING_MARK = 0, RING_DIGIT = 1, FIRST_ROUND = 2, KIND = 3, SPUN_DIGIT = 4, IN_SIGNS = 5;

        final Piece told = new Piece();
        private int step = RING_MARK;

        /** FIRST FAULT of the TEXT, or NONE. */
        int firstFault(Sheet from, int i, int n) {
            told.begun = true;
            told.count = 0;
            step = RING_MARK;
            for (int place = 0; place < n; place++) {
                if (!takes(from.at(i + place))) {
                    return place;
                }
            }
            return mayEnd() ? NONE : n;
        }

        private boolean takes(int code) {
            switch (step) {
                case RING_MARK: return goesOn(code == 'r', RING_DIGIT);
                case RING_DIGIT: return takesRing(code - '0');
                case FIRST_ROUND: return takesRound(code);
                case KIND: return takesKind(kindOf(code));
                case SPUN_DIGIT: return takesSpun(code - '0');
                default: return takesSign(code);
            }
        }

        private boolean mayEnd() {
            Round last = told.at(told.count);
            return step == IN_SIGNS && last != null && last.signCount > 0;
        }

        private boolean goesOn(boolean fits, int next) {
            if (fits) {
                step = next;
            }
            return fits;
        }

        private boolean takesRing(int digit) {
            told.ring = digit;
            return goesOn(digit >= LEAST_RING && digit <= MOST_RING, FIRST_ROUND);
        }

        private boolean takesRound(int code) {
            Round next = told.spare();
            if (code != ';' || next == null) {
                return false;
            }
            next.begin(PLAIN, 1);
            told.count++;
            return goesOn(true, KIND);
        }

        private boolean takesKind(int kind) {
            Round last = told.at(told.count);
            if (last == null || kind == NONE) {
                return false;
            }
            last.kind = kind;
            return goesOn(true, SPUN_DIGIT);
        }

        private boolean takesSpun(int digit) {
            Round last = told.at(told.count);
            if (last == null || isNoSpun(digit)) {
                return false;
            }
            last.spun = digit;
            return goesOn(true, IN_SIGNS);
        }

        private boolean takesSign(int code) {
            Round last = told.at(told.count);
            if (last == null) {
                return false;
            }
            int sign = signOf(code);
            if (sign != NONE) {
                return last.addSign(sign);
            }
            return last.signCount > 0 && takesRound(code);
        }

        private static int kindOf(int code) {
            switch (code) {
                case 'p': return PLAIN;
                case 'b': return BRUSHED;
                case 't': return TWINED;
                default: return NONE;
            }
        }

        private static int signOf(int code) {
            switch (code) {
                case 's': return 0;
                case 'i': return 1;
                case 'd': return 2;
                case 'c': return 3;
                case 'k': return 4;
                default: return NONE;
            }
        }
    }

    /** Which loop stands in which, row by row from the RING (row 0) on. */
    private static final class Layout {
        final int[][] bySign = new int[MOST_ROUNDS + 1][MOST_LOOPS];
        final int[][] first = new int[MOST_ROUNDS + 1][MOST_LOOPS];
        final int[][] last = new int[MOST_ROUNDS + 1][MOST_LOOPS];
        final int[][] roots = new int[MOST_ROUNDS + 1][MOST_LOOPS];
        /** How many stand in each loop; of the last ROUND it is old, for ravelling does not clear it. */
        final int[][] above = new int[MOST_ROUNDS + 1][MOST_LOOPS];

        void layAll(Piece piece) {
            for (int k = 0; k < MOST_RING; k++) {
                roots[0][k] = 1 << k;
            }
            for (int r = 1; r <= piece.count; r++) {
                layRound(r, piece.at(r));
            }
        }

        void layRound(int r, Round round) {
            if (r < 1 || r > MOST_ROUNDS || round == null) {
                return;
            }
            Arrays.fill(above[r - 1], 0);
            int used = 0;
            int made = 0;
            for (int time = 0; time < round.times; time++) {
                for (int i = 0; i < round.signCount; i++) {
                    int sign = round.signs[i];
                    for (int loop = 0; loop < MAKES[sign]; loop++) {
                        layLoop(r, made, sign, used);
                        made++;
                    }
                    used += USES[sign];
                }
            }
        }

        private void layLoop(int r, int k, int sign, int from) {
            int to = from + USES[sign];
            if (k >= MOST_LOOPS || to > MOST_LOOPS) {
                return;
            }
            bySign[r][k] = sign;
            first[r][k] = to > from ? from : NONE;
            last[r][k] = to > from ? to - 1 : NONE;
            roots[r][k] = 0;
            for (int below = from; below < to; below++) {
                above[r - 1][below]++;
                roots[r][k] |= roots[r - 1][below];
            }
        }
    }

    /** READINGS tell ROUNDS by number, so they outlive a ravelled ROUND and speak of the next one put there. */
    private static final class Readings {
        int count = 0;
        private final int[] rounds = new int[MOST_READINGS];
        private final int[] girths = new int[MOST_READINGS];

        boolean add(int r, int girth) {
            if (count >= MOST_READINGS) {
                return false;
            }
            rounds[count] = r;
            girths[count] = girth;
            count++;
            return true;
        }

        boolean areSo(Piece piece) {
            for (int k = 0; k < count; k++) {
                Round round = piece.at(rounds[k]);
                if (round == null || round.girth() != girths[k]) {
                    return false;
                }
            }
            return true;
        }
    }

    /** What ROUNDS of PLANS can make; both tables are kept until another number of loops is asked from. */
    private static final class Plans {
        private final int[] uses = new int[PLANS];
        private final int[] makes = new int[PLANS];
        private int searchedFrom = 0;
        private int countedFrom = 0;
        /** FEWEST to each number of loops, or NONE. */
        final int[] rounds = new int[MOST_LOOPS + 1];
        private final int[] cameFrom = new int[MOST_LOOPS + 1];
        private final int[] cameBy = new int[MOST_LOOPS + 1];
        private final int[] queue = new int[MOST_LOOPS];
        /** WAYS of each number of ROUNDS to each number of loops. */
        final long[][] waysTo = new long[MOST_WAYS_ROUNDS + 1][MOST_LOOPS + 1];

        Plans() {
            for (int x = 0; x < SIGNS; x++) {
                uses[x] = USES[x];
                makes[x] = MAKES[x];
                for (int y = 0; y < SIGNS; y++) {
                    uses[SIGNS + SIGNS * x + y] = USES[x] + USES[y];
                    makes[SIGNS + SIGNS * x + y] = MAKES[x] + MAKES[y];
                }
            }
        }

        /**
         * Goes out from so many loops. Numbers of loops come to the queue in the order of their first rows of
         * PLANS, so the way by which each is first come to is the first of the shortest ones.
         */
        void searchFrom(int from) {
            if (from == searchedFrom || isNoLoopCount(from)) {
                return;
            }
            searchedFrom = from;
            Arrays.fill(rounds, NONE);
            rounds[from] = 0;
            queue[0] = from;
            int known = 1;
            for (int next = 0; next < known && next < MOST_LOOPS; next++) {
                known = goOnFrom(queue[next], known);
            }
        }

        private int goOnFrom(int at, int known) {
            int knownThen = known;
            for (int plan = 0; plan < PLANS; plan++) {
                int made = loopsUpon(at, uses[plan], makes[plan]);
                if (made > 0 && rounds[made] == NONE && knownThen < MOST_LOOPS) {
                    rounds[made] = rounds[at] + 1;
                    cameFrom[made] = at;
                    cameBy[made] = plan;
                    queue[knownThen] = made;
                    knownThen++;
                }
            }
            return knownThen;
        }

        /** The k-th PLAN of FEWEST to v, or NONE. */
        int planTo(int v, int k) {
            if (k >= rounds[v]) {
                return NONE;
            }
            int at = v;
            for (int steps = rounds[v] - 1; steps > k; steps--) {
                at = cameFrom[at];
            }
            return cameBy[at];
        }

        void countFrom(int from) {
            if (from == countedFrom || isNoLoopCount(from)) {
                return;
            }
            countedFrom = from;
            Arrays.fill(waysTo[0], 0);
            waysTo[0][from] = 1;
            for (int n = 1; n <= MOST_WAYS_ROUNDS; n++) {
                Arrays.fill(waysTo[n], 0);
                for (int at = 1; at <= MOST_LOOPS; at++) {
                    addWays(waysTo[n - 1][at], at, waysTo[n]);
                }
            }
        }

        private void addWays(long ways, int at, long[] to) {
            if (ways == 0) {
                return;
            }
            for (int plan = SIGNS; plan < PLANS; plan++) {
                int made = loopsUpon(at, uses[plan], makes[plan]);
                if (made > 0) {
                    to[made] += ways;
                }
            }
        }
    }

    /** A SHEET: nothing, or a row of a LANE; an int for each cell, cut to the LANE as it comes. */
    private static final class Sheet {
        boolean filled = false;
        int lane = 0;
        private int size = 0;
        final int[] cells = new int[MOST_CELLS];

        void lay(int itsLane, int n) {
            filled = true;
            lane = itsLane;
            size = n;
            Arrays.fill(cells, 0);
        }

        int at(int i) {
            return lacks(i, 1) ? 0 : cells[i];
        }

        /** Whether not all of n cells from i on are there. */
        boolean lacks(int i, int n) {
            return i < 0 || n < 0 || n > size - i;
        }

        int cut(int v) {
            switch (lane) {
                case 0: return (byte) v;
                case 1: return (short) v;
                default: return v;
            }
        }

        int faultOfTaking(int asLane, int i, int n) {
            if (!filled) {
                return NULL;
            }
            if (lane != asLane) {
                return CAST;
            }
            if (n < 0) {
                return SIZE;
            }
            return lacks(i, n) ? INDEX : NO_FAULT;
        }
    }
}
