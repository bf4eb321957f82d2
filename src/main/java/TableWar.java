import java.util.Arrays;

/** Two houses' war, fought on the cells of a tablecloth. DOC.md tells what each call promises. */
public final class TableWar {
    public static final int UNKNOWN = -1, OUTSIDE = -2, STATE = -3, FULL = -4, NONE = -9;
    public static final long LOST = Long.MIN_VALUE;

    private static final int FAULT_NULL = 1, FAULT_CAST = 2, FAULT_INDEX = 3, FAULT_SIZE = 4;
    private static final int FORK = 0, SALT = 1, GRAVY = 2, KINDS = 3;
    private static final int TO_LESSER = 0, TO_GREATER = 1, ACTS = 3;
    private static final int SHEETS = 4, LANES = 3, DIGITS = 10;
    private static final int LEAST_CELLS = 2, MOST_CELLS = 6, MOST_THINGS = 6;
    private static final int MOST_READINGS = 8, MOST_PAIRS = 20;
    private static final int EVEN_LEAD = 100;
    private static final int MOVES = MOST_THINGS * ACTS;

    private final Cloth cloth;
    /** A second cloth, made once, on which texts are read and dinners are played. */
    private final Cloth trial;
    private final Sheet[] sheets;
    private final int[] readCells;
    private final int[] readHolders;
    private int readings;
    private int traced;
    private int lastFault;

    public TableWar() {
        cloth = new Cloth();
        trial = new Cloth();
        sheets = new Sheet[SHEETS];
        for (int k = 0; k < SHEETS; k++) {
            sheets[k] = new Sheet();
        }
        readCells = new int[MOST_READINGS];
        readHolders = new int[MOST_READINGS];
    }

    // ---- 1 the table

    public int table(int sheet, int lane, int i, int n) {
        lastFault = 0;
        if (!isSheet(sheet)) {
            return UNKNOWN;
        }
        if (!isLane(lane)) {
            return OUTSIDE;
        }
        Sheet text = sheets[sheet];
        int fault = text.faultOfCells(lane, i, n);
        if (fault != 0) {
            return faulted(fault);
        }
        int wrong = trial.readText(text, i, n);
        if (wrong != NONE) {
            return -100 - wrong;
        }
        cloth.become(trial);
        readings = 0;
        return cloth.things;
    }

    public int ofThing(int x, int what) {
        if (!isThing(x)) {
            return UNKNOWN;
        }
        switch (what) {
            case 0: return cloth.kind[x];
            case 1: return cloth.house[x];
            case 2: return cloth.whereIs(x);
            case 3: return cloth.strength[x];
            case 4: return cloth.mightOf(x);
            default: return OUTSIDE;
        }
    }

    public int acres(int c) {
        return isCell(c) ? cloth.acresOf[c] : UNKNOWN;
    }

    public int stain(int c, int v) {
        return isCell(c) ? replaceDigit(cloth.acresOf, c, v) : UNKNOWN;
    }

    public int arm(int x, int v) {
        return isThing(x) ? replaceDigit(cloth.strength, x, v) : UNKNOWN;
    }

    public int might(int h, int c) {
        return isHouse(h) && isCell(c) ? cloth.mightIn(h, c) : UNKNOWN;
    }

    public int holds(int c) {
        return isCell(c) ? cloth.holderOf(c) : UNKNOWN;
    }

    public int land(int h) {
        if (!isHouse(h)) {
            return UNKNOWN;
        }
        return hasTable() ? cloth.landOf(h) : STATE;
    }

    // ---- 2 dinners

    public int act(int x, int act) {
        if (!isThing(x)) {
            return UNKNOWN;
        }
        if (!isAct(act)) {
            return OUTSIDE;
        }
        if (!cloth.canDo(x, act)) {
            return STATE;
        }
        cloth.doAct(x, act);
        return cloth.whereIs(x);
    }

    public int serve() {
        if (!hasTable()) {
            return STATE;
        }
        int served = cloth.countEaten();
        cloth.eaten = 0;
        return served;
    }

    public int dinner(int sheet, int lane, int i, int n, int what) {
        lastFault = 0;
        if (!isSheet(sheet)) {
            return UNKNOWN;
        }
        if (!isLane(lane) || n < 0 || n > MOST_PAIRS || !isDinnerQuestion(what)) {
            return OUTSIDE;
        }
        if (!hasTable()) {
            return STATE;
        }
        Sheet pairs = sheets[sheet];
        int fault = pairs.faultOfCells(lane, i, 2 * n);
        if (fault != 0) {
            return faulted(fault);
        }
        int refusal = refusalOfPairs(pairs, i, n);
        if (refusal != 0) {
            return refusal;
        }
        trial.become(cloth);
        int wrong = trial.playPairs(pairs, i, n);
        if (what == 1) {
            return wrong;
        }
        return wrong == NONE ? answerOfDinner(what) : -100 - wrong;
    }

    // ---- 3 moves

    public int good(int h, int what) {
        int refusal = refusalOfMove(h, what);
        return refusal != 0 ? refusal : partOfChoice(cloth.goodChoice(h), what);
    }

    public int safe(int h, int what) {
        int refusal = refusalOfMove(h, what);
        return refusal != 0 ? refusal : partOfChoice(cloth.safeChoice(h), what);
    }

    public int need(int h, int c) {
        return isHouse(h) && isCell(c) ? cloth.fewestSteps(h, c) : UNKNOWN;
    }

    // ---- 4 who held what

    public int reading(int c, int h) {
        if (!isCell(c) || !(isHouse(h) || h == NONE)) {
            return UNKNOWN;
        }
        if (readings >= MOST_READINGS) {
            return FULL;
        }
        readCells[readings] = c;
        readHolders[readings] = h;
        readings++;
        return readings - 1;
    }

    public int back(int k) {
        if (k < 0 || k > readings) {
            return OUTSIDE;
        }
        readings -= k;
        return readings;
    }

    public int strengths(int x) {
        return isThing(x) ? valuesThatFit(cloth.strength, x, DIGITS) : UNKNOWN;
    }

    public int kinds(int x) {
        return isThing(x) ? valuesThatFit(cloth.kind, x, KINDS) : UNKNOWN;
    }

    public int spots(int x) {
        return isThing(x) ? valuesThatFit(cloth.place, x, cloth.cells) : UNKNOWN;
    }

    public long odds(int h, int which) {
        if (!isHouse(h) || which < 0 || which > 1 || !hasTable()) {
            return LOST;
        }
        int upper = cloth.countSetsWithLead(h);
        int lower = 1 << cloth.things;
        // the lower number is a power of two, so halves alone can be taken out
        for (int halved = 0; halved < cloth.things && upper % 2 == 0; halved++) {
            upper /= 2;
            lower /= 2;
        }
        return which == 0 ? upper : lower;
    }

    // ---- 5 sheets, parts

    public int sheet(int k, int lane, int n) {
        lastFault = 0;
        if (!isSheet(k)) {
            return UNKNOWN;
        }
        if (!isLane(lane) || n > Sheet.MOST) {
            return OUTSIDE;
        }
        if (n < 0) {
            return faulted(FAULT_SIZE);
        }
        sheets[k].renew(lane, n);
        return 1;
    }

    public int lose(int k) {
        if (!isSheet(k)) {
            return UNKNOWN;
        }
        int had = sheets[k].isNothing() ? 0 : 1;
        sheets[k].clear();
        return had;
    }

    public int put(int k, int i, int v) {
        lastFault = 0;
        if (!isSheet(k)) {
            return UNKNOWN;
        }
        Sheet row = sheets[k];
        int fault = row.faultOfCells(row.lane, i, 1);
        if (fault != 0) {
            return faulted(fault);
        }
        row.setAt(i, v);
        return 1;
    }

    public long cell(int k, int i, int lane) {
        lastFault = 0;
        if (!isSheet(k) || !isLane(lane)) {
            return LOST;
        }
        lastFault = sheets[k].faultOfCells(lane, i, 1);
        return lastFault == 0 ? sheets[k].at(i) : LOST;
    }

    public int copy(int k, int i, int other, int j, int n) {
        lastFault = 0;
        if (!isSheet(k) || !isSheet(other)) {
            return UNKNOWN;
        }
        Sheet from = sheets[k];
        Sheet to = sheets[other];
        if (from.isNothing() || to.isNothing()) {
            return faulted(FAULT_NULL);
        }
        if (from.lane != to.lane) {
            return faulted(FAULT_CAST);
        }
        if (n < 0 || !from.hasCells(i, n) || !to.hasCells(j, n)) {
            return faulted(FAULT_INDEX);
        }
        System.arraycopy(from.row, i, to.row, j, n);
        return n;
    }

    public int tell(int x) {
        if (!isThing(x)) {
            return UNKNOWN;
        }
        switch (cloth.kind[x]) {
            case GRAVY: return gravyTells(x);
            case SALT: return saltTells(x);
            default: return forkTells(x);
        }
    }

    public int pass(int x) {
        if (!isThing(x)) {
            return UNKNOWN;
        }
        if (cloth.kind[x] == GRAVY) {
            leaveTrace(5);
            return 60;
        }
        leaveTrace(4);
        return x;
    }

    public int as(int x, int kind) {
        lastFault = 0;
        if (!isThing(x)) {
            return UNKNOWN;
        }
        if (kind < FORK || kind > GRAVY) {
            return OUTSIDE;
        }
        // a kind is all the kinds of lesser numbers, too
        return cloth.kind[x] >= kind ? 1 : faulted(FAULT_CAST);
    }

    public int trace() {
        return traced;
    }

    public int fault() {
        return lastFault;
    }

    public int many(int what) {
        switch (what) {
            case 0: return cloth.things;
            case 1: return cloth.cells;
            case 2: return cloth.countEaten();
            case 3: return readings;
            default: return OUTSIDE;
        }
    }

    // ---- what the calls share

    private boolean hasTable() {
        return cloth.things > 0;
    }

    private boolean isThing(int x) {
        return x >= 0 && x < cloth.things;
    }

    private boolean isCell(int c) {
        return c >= 0 && c < cloth.cells;
    }

    private static boolean isHouse(int h) {
        return h == 0 || h == 1;
    }

    private static boolean isAct(int act) {
        return act >= 0 && act < ACTS;
    }

    private static boolean isSheet(int k) {
        return k >= 0 && k < SHEETS;
    }

    private static boolean isLane(int lane) {
        return lane >= 0 && lane < LANES;
    }

    private int faulted(int fault) {
        lastFault = fault;
        return -10 - fault;
    }

    private static int replaceDigit(int[] values, int at, int v) {
        if (v < 0 || v >= DIGITS) {
            return OUTSIDE;
        }
        int was = values[at];
        values[at] = v;
        return was;
    }

    private static boolean isDinnerQuestion(int what) {
        return what >= 0 && what <= 3
            || what >= 10 && what < 10 + MOST_THINGS
            || what >= 20 && what < 20 + MOST_CELLS;
    }

    private int refusalOfPairs(Sheet pairs, int i, int n) {
        for (int p = 0; p < n; p++) {
            if (!isThing(pairs.at(i + 2 * p))) {
                return UNKNOWN;
            }
            if (!isAct(pairs.at(i + 2 * p + 1))) {
                return OUTSIDE;
            }
        }
        return 0;
    }

    private int answerOfDinner(int what) {
        if (what == 0) {
            return trial.landOf(0);
        }
        if (what == 2) {
            return trial.landOf(1);
        }
        if (what == 3) {
            return trial.countEaten();
        }
        if (what < 20) {
            return isThing(what - 10) ? trial.whereIs(what - 10) : NONE;
        }
        return isCell(what - 20) ? trial.holderOf(what - 20) : NONE;
    }

    private int refusalOfMove(int h, int what) {
        if (!isHouse(h)) {
            return UNKNOWN;
        }
        if (what < 0 || what > 2) {
            return OUTSIDE;
        }
        return hasTable() ? 0 : STATE;
    }

    private static int partOfChoice(int choice, int what) {
        if (choice == NONE) {
            return NONE;
        }
        int move = Cloth.moveOfChoice(choice);
        switch (what) {
            case 0: return move / ACTS;
            case 1: return move % ACTS;
            default: return Cloth.leadOfChoice(choice);
        }
    }

    /** The set of the values that could stand at x of one of the cloth's rows by all READINGS. */
    private int valuesThatFit(int[] values, int x, int many) {
        int is = values[x];
        int set = 0;
        for (int v = 0; v < many; v++) {
            values[x] = v;
            if (readingsAreSo()) {
                set |= 1 << v;
            }
        }
        values[x] = is;
        return set;
    }

    private boolean readingsAreSo() {
        for (int k = 0; k < readings; k++) {
            if (cloth.holderOf(readCells[k]) != readHolders[k]) {
                return false;
            }
        }
        return true;
    }

    private void leaveTrace(int body) {
        traced = 31 * traced + body;
    }

    private int forkTells(int x) {
        leaveTrace(1);
        return cloth.strength[x];
    }

    private int saltTells(int x) {
        leaveTrace(2);
        return forkTells(x) + 100;
    }

    private int gravyTells(int x) {
        leaveTrace(3);
        int asSalt = saltTells(x);
        return asSalt + forkTells(x);
    }

    /** A row of numbers of a LANE, or nothing; its cells are made once and used again. */
    private static final class Sheet {
        static final int MOST = 60;
        static final int NO_LANE = -1;

        final int[] row = new int[MOST];
        int lane = NO_LANE;
        int size;

        boolean isNothing() {
            return lane == NO_LANE;
        }

        void clear() {
            lane = NO_LANE;
            size = 0;
        }

        void renew(int newLane, int n) {
            lane = newLane;
            size = n;
            Arrays.fill(row, 0);
        }

        int at(int i) {
            return i >= 0 && i < size ? row[i] : 0;
        }

        void setAt(int i, int v) {
            if (i >= 0 && i < size) {
                row[i] = cutToLane(v);
            }
        }

        private int cutToLane(int v) {
            switch (lane) {
                case 0: return (byte) v;
                case 1: return (short) v;
                default: return v;
            }
        }

        /** Written without i + n, which could wrap. */
        boolean hasCells(int i, int n) {
            return i >= 0 && i <= size && n <= size - i;
        }

        /** The first FAULT of taking n cells from i on of this as a row of a lane; 0: none. */
        int faultOfCells(int asLane, int i, int n) {
            if (isNothing()) {
                return FAULT_NULL;
            }
            if (lane != asLane) {
                return FAULT_CAST;
            }
            if (n < 0) {
                return FAULT_SIZE;
            }
            return hasCells(i, n) ? 0 : FAULT_INDEX;
        }
    }

    /** CELLS and THINGS as they are; there is a TABLE on it if there are THINGS. */
    private static final class Cloth {
        final int[] acresOf = new int[MOST_CELLS];
        final int[] kind = new int[MOST_THINGS];
        final int[] house = new int[MOST_THINGS];
        /** Where a THING is, or was when it was EATEN. */
        final int[] place = new int[MOST_THINGS];
        final int[] strength = new int[MOST_THINGS];
        int cells;
        int things;
        /** A bit for each THING that is EATEN. */
        int eaten;

        void become(Cloth other) {
            System.arraycopy(other.acresOf, 0, acresOf, 0, MOST_CELLS);
            System.arraycopy(other.kind, 0, kind, 0, MOST_THINGS);
            System.arraycopy(other.house, 0, house, 0, MOST_THINGS);
            System.arraycopy(other.place, 0, place, 0, MOST_THINGS);
            System.arraycopy(other.strength, 0, strength, 0, MOST_THINGS);
            cells = other.cells;
            things = other.things;
            eaten = other.eaten;
        }

        /** Makes this cloth by a TEXT: its FIRST FAULT; NONE: it is taken. */
        int readText(Sheet text, int i, int n) {
            eaten = 0;
            cells = 0;
            things = 0;
            if (n < 1 || text.at(i) != 't') {
                return 0;
            }
            int k = 1;
            while (k < n && cells < MOST_CELLS && isDigit(text.at(i + k))) {
                acresOf[cells] = text.at(i + k) - '0';
                cells++;
                k++;
            }
            if (cells < LEAST_CELLS) {
                return k;
            }
            for (; k < n; k += 5) {
                if (things == MOST_THINGS || text.at(i + k) != ';') {
                    return k;
                }
                int fitting = readThing(text, i + k + 1, Math.min(4, n - k - 1));
                if (fitting < 4) {
                    return k + 1 + fitting;
                }
                things++;
            }
            return things > 0 ? NONE : n;
        }

        /** How many of the n codes from i on a next THING goes on with. */
        private int readThing(Sheet text, int i, int n) {
            for (int q = 0; q < n; q++) {
                int code = text.at(i + q);
                int value = q == 0 ? kindOfLetter(code) : code - '0';
                if (value < 0 || value >= boundOfPart(q)) {
                    return q;
                }
                setPart(q, value);
            }
            return n;
        }

        private int boundOfPart(int q) {
            switch (q) {
                case 0: return KINDS;
                case 1: return 2;
                case 2: return cells;
                default: return DIGITS;
            }
        }

        private void setPart(int q, int value) {
            if (things >= MOST_THINGS) {
                return;
            }
            switch (q) {
                case 0: kind[things] = value; break;
                case 1: house[things] = value; break;
                case 2: place[things] = value; break;
                default: strength[things] = value; break;
            }
        }

        private static int kindOfLetter(int code) {
            switch (code) {
                case 'f': return FORK;
                case 's': return SALT;
                case 'g': return GRAVY;
                default: return NONE;
            }
        }

        private static boolean isDigit(int code) {
            return code >= '0' && code <= '9';
        }

        boolean isEaten(int x) {
            return (eaten >> x & 1) == 1;
        }

        int countEaten() {
            return Integer.bitCount(eaten);
        }

        int whereIs(int x) {
            return isEaten(x) ? NONE : place[x];
        }

        int mightOf(int x) {
            if (isEaten(x)) {
                return 0;
            }
            switch (kind[x]) {
                case GRAVY: return 2 * (strength[x] + 1);
                case SALT: return strength[x] + 1;
                default: return strength[x];
            }
        }

        int mightIn(int h, int c) {
            int sum = 0;
            for (int x = 0; x < things; x++) {
                if (house[x] == h && place[x] == c) {
                    sum += mightOf(x);
                }
            }
            return sum;
        }

        int holderOf(int c) {
            int balance = 0;
            for (int x = 0; x < things; x++) {
                if (place[x] == c) {
                    balance += house[x] == 0 ? mightOf(x) : -mightOf(x);
                }
            }
            if (balance == 0) {
                return NONE;
            }
            return balance > 0 ? 0 : 1;
        }

        int landOf(int h) {
            int sum = 0;
            for (int c = 0; c < cells; c++) {
                if (holderOf(c) == h) {
                    sum += acresOf[c];
                }
            }
            return sum;
        }

        int leadOf(int h) {
            int lead = EVEN_LEAD;
            for (int c = 0; c < cells; c++) {
                int holder = holderOf(c);
                if (holder != NONE) {
                    lead += holder == h ? acresOf[c] : -acresOf[c];
                }
            }
            return lead;
        }

        boolean canDo(int x, int act) {
            if (isEaten(x)) {
                return false;
            }
            switch (act) {
                case TO_LESSER: return place[x] > 0;
                case TO_GREATER: return place[x] + 1 < cells;
                default: return true;
            }
        }

        void doAct(int x, int act) {
            switch (act) {
                case TO_LESSER: place[x]--; break;
                case TO_GREATER: place[x]++; break;
                default: eaten |= 1 << x; break;
            }
        }

        /** Takes back an act that was just done. */
        private void undoAct(int x, int act) {
            switch (act) {
                case TO_LESSER: place[x]++; break;
                case TO_GREATER: place[x]--; break;
                default: eaten &= ~(1 << x); break;
            }
        }

        /** Plays a DINNER on this cloth, as far as it goes: its FIRST WRONG; NONE. */
        int playPairs(Sheet pairs, int i, int n) {
            for (int p = 0; p < n; p++) {
                int x = pairs.at(i + 2 * p);
                int act = pairs.at(i + 2 * p + 1);
                if (x < 0 || x >= things || house[x] != p % 2 || !canDo(x, act)) {
                    return p;
                }
                doAct(x, act);
            }
            return NONE;
        }

        /** A lead and a move as one number: the greater lead is more, then the lesser move. */
        private static int choiceOf(int lead, int move) {
            return lead * MOVES + MOVES - 1 - move;
        }

        static int leadOfChoice(int choice) {
            return choice / MOVES;
        }

        static int moveOfChoice(int choice) {
            return MOVES - 1 - choice % MOVES;
        }

        private boolean canMove(int h, int move) {
            return house[move / ACTS] == h && canDo(move / ACTS, move % ACTS);
        }

        int goodChoice(int h) {
            int best = NONE;
            for (int move = 0; move < things * ACTS; move++) {
                if (canMove(h, move)) {
                    doAct(move / ACTS, move % ACTS);
                    best = Math.max(best, choiceOf(leadOf(h), move));
                    undoAct(move / ACTS, move % ACTS);
                }
            }
            return best;
        }

        int safeChoice(int h) {
            int best = NONE;
            for (int move = 0; move < things * ACTS; move++) {
                if (canMove(h, move)) {
                    doAct(move / ACTS, move % ACTS);
                    int reply = goodChoice(1 - h);
                    // what one house leads by, the other lacks: both leads are always 200 together
                    int lead = reply == NONE ? leadOf(h) : 2 * EVEN_LEAD - leadOfChoice(reply);
                    best = Math.max(best, choiceOf(lead, move));
                    undoAct(move / ACTS, move % ACTS);
                }
            }
            return best;
        }

        /** NEED: each set of its things is tried; those in the cell already cost no step. */
        int fewestSteps(int h, int c) {
            int against = mightIn(1 - h, c);
            int fewest = NONE;
            for (int set = 0; set < 1 << things; set++) {
                int might = 0;
                int steps = 0;
                for (int x = 0; x < things; x++) {
                    if ((set >> x & 1) == 1 && house[x] == h && !isEaten(x)) {
                        might += mightOf(x);
                        steps += Math.abs(place[x] - c);
                    }
                }
                if (might > against && (fewest == NONE || steps < fewest)) {
                    fewest = steps;
                }
            }
            return fewest;
        }

        /**
         * By how many of the sets of things, as those that are eaten, a house has more land. A thing
         * that is eaten anyway doubles both the sets and those that count, so the share stays.
         */
        int countSetsWithLead(int h) {
            int is = eaten;
            int count = 0;
            for (int set = 0; set < 1 << things; set++) {
                eaten = is | set;
                if (leadOf(h) > EVEN_LEAD) {
                    count++;
                }
            }
            eaten = is;
            return count;
        }
    }
}
