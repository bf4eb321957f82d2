import java.math.BigInteger;

/** The edges that the document names of SHEETS, TELLING, TRACE and FAULTS (promises 22 to 32). */
public final class SheetEdgesTest {
    private static final int NULL = Checks.NULL, CAST = Checks.CAST, INDEX = Checks.INDEX, SIZE = Checks.SIZE;
    private static final String AHEAD = "put(3, 0, 0)";

    /** Of each of the calls that name no FAULT, one that is answered and one that is refused. */
    private static final String[] NAMING_NONE = {
        "ofThing(0, 0)", "ofThing(9, 0)", "acres(0)", "acres(9)", "stain(0, 4)", "stain(9, 0)", "arm(0, 3)", "arm(9, 0)",
        "might(0, 0)", "might(9, 0)", "holds(0)", "holds(9)", "land(0)", "land(9)", "act(0, 1)", "act(0, 9)", "serve()",
        "good(0, 0)", "good(0, 9)", "safe(0, 0)", "safe(9, 0)", "need(0, 0)", "need(9, 0)", "reading(0, 0)",
        "reading(9, 0)", "back(0)", "back(9)", "strengths(0)", "strengths(9)", "kinds(0)", "kinds(9)", "spots(0)",
        "spots(9)", "odds(0, 0)", "odds(9, 0)", "odds(0, 9)", "lose(0)", "lose(0)", "lose(9)", "tell(0)", "tell(9)",
        "pass(0)", "pass(9)", "trace()", "fault()", "many(0)", "many(9)"
    };

    public static void main(String[] args) {
        rowsFromNoneToSixty();
        zeroAtFirst();
        nothingAndARowOfNone();
        cutToItsLane();
        cellsOfARow();
        copiesWithinARow();
        copiesOfNone();
        copiesOfAll();
        copiesAsTheyWere();
        copiesOfNothing();
        tellingOfEachKind();
        passedByEach();
        takenAsEachKind();
        traceThatWraps();
        refusalsLeaveNoTrace();
        faultOfTheLatestThatNamesOne();
        faultOfEachCall();
        faultBehindRefusals();
        howManyFromNoneToAll();
        Checks.end();
    }

    // ---- SHEETS

    private static void rowsFromNoneToSixty() {
        for (int n = 0; n <= 60; n++) {
            int lane = n % 3;
            Run run = new Run("a row of 0 .. 60 numbers: " + n).due("sheet(1, " + lane + ", " + n + ")", 1);
            run.lost("cell(1, " + n + ", " + lane + ")", 3).keeps("put(1, " + n + ", 5)", INDEX).keeps("put(1, -1, 5)", INDEX);
            run.keeps("sheet(1, " + lane + ", " + (n + 61) + ")", -2);
            if (n > 0) {
                run.due("put(1, " + (n - 1) + ", 5)", 1).due("cell(1, " + (n - 1) + ", " + lane + ")", 5);
                run.due("put(1, 0, 6)", 1).due("cell(1, 0, " + lane + ")", 6);
            }
        }
        Run run = new Run("n above 60 is OUTSIDE, below 0 SIZE").due("sheet(0, 0, 60)", 1);
        run.keeps("sheet(0, 0, 61)", -2).keeps("sheet(0, 0, -1)", SIZE).keeps("sheet(0, 0, MOST)", -2);
        run.keeps("sheet(0, 0, LEAST)", SIZE).keeps("cell(0, 59, 0)", 0);
    }

    private static void zeroAtFirst() {
        for (int lane = 0; lane < 3; lane++) {
            for (int then = 0; then < 3; then++) {
                Run run = new Run("numbers (0 at first)").row(0, lane, 1, -2, 3, -4);
                run.due("sheet(0, " + then + ", 6)", 1);
                for (int i = 0; i < 6; i++) {
                    run.due("cell(0, " + i + ", " + then + ")", 0);
                }
                run.lost("cell(0, 6, " + then + ")", 3).lost("cell(0, 0, " + (then + 1) % 3 + ")", 2);
            }
        }
        Run run = new Run("a shorter row, then a longer one").row(2, 0, 1, 2, 3).does("sheet(2, 0, 1)").does("sheet(2, 0, 3)");
        run.due("cell(2, 0, 0)", 0).due("cell(2, 1, 0)", 0).due("cell(2, 2, 0)", 0);
        run.does("put(2, 2, 9)").does("lose(2)").does("sheet(2, 0, 3)").due("cell(2, 2, 0)", 0);
    }

    private static void nothingAndARowOfNone() {
        for (int k = 0; k < 4; k++) {
            Run run = new Run("A SHEET has nothing: 1; 0: it had nothing").keeps("lose(" + k + ")", 0);
            run.keeps("put(" + k + ", 0, 1)", NULL).keeps("table(" + k + ", 0, 0, 0)", NULL);
            run.due("sheet(" + k + ", 2, 0)", 1).keeps("put(" + k + ", 0, 1)", INDEX);
            run.keeps("table(" + k + ", 2, 0, 0)", -100).keeps("table(" + k + ", 1, 0, 0)", CAST);
            run.due("lose(" + k + ")", 1).keeps("lose(" + k + ")", 0).keeps("put(" + k + ", 0, 1)", NULL);
            run.lost("cell(" + k + ", 0, 2)", 1).due("sheet(" + k + ", 0, 1)", 1).due("lose(" + k + ")", 1);
        }
        Run run = new Run("a SHEET loses its own row alone").row(0, 0, 1).row(1, 0, 2).row(2, 0, 3).row(3, 0, 4);
        run.due("lose(1)", 1).due("cell(0, 0, 0)", 1).due("cell(2, 0, 0)", 3).due("cell(3, 0, 0)", 4).lost("cell(1, 0, 0)", 1);
    }

    private static void cut(int v, int asByte, int asShort) {
        Run run = new Run("what comes to a cell of it is cut to its LANE: " + v).row(0, 0, 1, 1).row(1, 1, 1, 1).row(2, 2, 1, 1);
        for (int k = 0; k < 3; k++) {
            run.due("put(" + k + ", 1, " + v + ")", 1).due("cell(" + k + ", 0, " + k + ")", 1);
        }
        run.due("cell(0, 1, 0)", asByte).due("cell(1, 1, 1)", asShort).due("cell(2, 1, 2)", v);
    }

    private static void cutToItsLane() {
        cut(0, 0, 0);
        cut(127, 127, 127);
        cut(128, -128, 128);
        cut(-128, -128, -128);
        cut(-129, 127, -129);
        cut(255, -1, 255);
        cut(256, 0, 256);
        cut(-256, 0, -256);
        cut(32767, -1, 32767);
        cut(32768, 0, -32768);
        cut(-32768, 0, -32768);
        cut(-32769, -1, 32767);
        cut(65535, -1, -1);
        cut(65536, 0, 0);
        cut(70001, 113, 4465);
        cut(Integer.MAX_VALUE, -1, -1);
        cut(Integer.MIN_VALUE, 0, 0);
    }

    private static void cellsOfARow() {
        for (int lane = 0; lane < 3; lane++) {
            Run run = new Run("Cell i of what a SHEET has, taken as a row of a LANE").row(3, lane, 5, 6, 7);
            run.keeps("cell(3, 0, " + lane + ")", 5).keeps("cell(3, 2, " + lane + ")", 7);
            run.lost("cell(3, -1, " + lane + ")", 3).lost("cell(3, 3, " + lane + ")", 3);
            run.lost("cell(3, LEAST, " + lane + ")", 3).lost("cell(3, MOST, " + lane + ")", 3);
            for (int other = 0; other < 3; other++) {
                if (other != lane) {
                    run.lost("cell(3, 0, " + other + ")", 2).lost("cell(3, 3, " + other + ")", 2);
                }
            }
        }
        Run run = new Run("a cell's number that is as a refusal's, a fault's").row(0, 2, -1, -12, Integer.MIN_VALUE);
        run.due("cell(0, 0, 2)", -1).due("fault()", 0).due("cell(0, 1, 2)", -12).due("fault()", 0);
        run.due("cell(0, 2, 2)", Integer.MIN_VALUE).due("fault()", 0);
    }

    // ---- copies

    private static void dueRow(Run run, int k, int lane, int... numbers) {
        for (int i = 0; i < numbers.length; i++) {
            run.due("cell(" + k + ", " + i + ", " + lane + ")", numbers[i]);
        }
        run.lost("cell(" + k + ", " + numbers.length + ", " + lane + ")", 3);
    }

    private static void copiesWithinARow() {
        for (int i = 0; i <= 4; i++) {
            for (int j = 0; j <= 4; j++) {
                for (int n = 0; n <= 5; n++) {
                    copyWithinARow(i, j, n);
                }
            }
        }
    }

    private static void copyWithinARow(int i, int j, int n) {
        int[] numbers = {11, 12, 13, 14};
        Run run = new Run("go to another one (perhaps the same) from j on, as they were").row(0, 1, numbers);
        String call = "copy(0, " + i + ", 0, " + j + ", " + n + ")";
        if (i + n > 4 || j + n > 4) {
            run.keeps(call, INDEX);
        } else {
            int[] then = numbers.clone();
            for (int k = 0; k < n; k++) {
                then[j + k] = numbers[i + k];
            }
            run.due(call, n).due("fault()", 0);
            dueRow(run, 0, 1, then);
        }
    }

    private static void copiesOfNone() {
        Run run = new Run("INDEX (where i is not 0 .. how many there are, if none is taken, too)").row(0, 0, 1, 2).row(1, 0, 3);
        run.keeps("copy(0, 0, 1, 0, 0)", 0).keeps("copy(0, 2, 1, 1, 0)", 0).keeps("copy(1, 1, 0, 2, 0)", 0);
        run.keeps("copy(0, 3, 1, 0, 0)", INDEX).keeps("copy(0, 0, 1, 2, 0)", INDEX).keeps("copy(0, 2, 1, 2, 0)", INDEX);
        run.keeps("copy(0, -1, 1, 0, 0)", INDEX).keeps("copy(0, 0, 1, -1, 0)", INDEX);
        run.does("sheet(2, 0, 0)").keeps("copy(2, 0, 2, 0, 0)", 0).keeps("copy(2, 0, 2, 0, 1)", INDEX);
        run.keeps("copy(2, 1, 2, 0, 0)", INDEX).keeps("copy(2, 0, 2, 1, 0)", INDEX).keeps("copy(2, 0, 0, 2, 0)", 0);
    }

    private static void copiesOfAll() {
        int[] numbers = new int[60];
        for (int i = 0; i < numbers.length; i++) {
            numbers[i] = 1000000 - i;
        }
        Run run = new Run("n cells of a SHEET: all of 60").row(0, 2, numbers).does("sheet(3, 2, 60)");
        run.due("copy(0, 0, 3, 0, 61)", INDEX).due("copy(0, 0, 3, 0, 60)", 60);
        dueRow(run, 3, 2, numbers);
        run.due("copy(3, 0, 3, 1, 59)", 59).due("cell(3, 0, 2)", 1000000).due("cell(3, 1, 2)", 1000000);
        run.due("cell(3, 59, 2)", 1000000 - 58).due("cell(0, 59, 2)", 1000000 - 59);
    }

    private static void copiesAsTheyWere() {
        int[][] extremes = {{-128, 127, 0}, {-32768, 32767, -1}, {Integer.MIN_VALUE, Integer.MAX_VALUE, -129}};
        for (int lane = 0; lane < 3; lane++) {
            Run run = new Run("n cells .. as they were: n").row(0, lane, extremes[lane]).row(1, lane, 1, 2, 3, 4);
            run.due("copy(0, 0, 1, 1, 3)", 3);
            dueRow(run, 1, lane, 1, extremes[lane][0], extremes[lane][1], extremes[lane][2]);
            dueRow(run, 0, lane, extremes[lane]);
            run.due("put(0, 0, 9)", 1).due("cell(1, 1, " + lane + ")", extremes[lane][0]);
            for (int other = 0; other < 3; other++) {
                run.row(2, other, 5, 5, 5).due("copy(0, 0, 2, 0, 1)", other == lane ? 1 : CAST);
                run.due("copy(2, 0, 0, 0, 1)", other == lane ? 1 : CAST);
            }
        }
    }

    private static void copiesOfNothing() {
        Run run = new Run("FAULTS NULL (the first, the other), CAST (unlike LANES), INDEX").row(0, 0, 1).row(1, 1, 2);
        run.keeps("copy(2, 0, 0, 0, 0)", NULL).keeps("copy(0, 0, 2, 0, 0)", NULL).keeps("copy(2, 0, 2, 0, 0)", NULL);
        run.keeps("copy(2, 0, 3, 9, -1)", NULL).keeps("copy(0, 9, 3, 9, -1)", NULL).keeps("copy(3, 9, 0, 9, -1)", NULL);
        run.keeps("copy(0, 0, 1, 0, 0)", CAST).keeps("copy(0, 0, 1, 0, -1)", CAST).keeps("copy(1, 2, 0, 0, 1)", CAST);
        run.does("sheet(2, 1, 0)").keeps("copy(2, 0, 0, 0, 0)", CAST).keeps("copy(2, 0, 1, 0, 0)", 0);
    }

    // ---- TELLING, TRACE

    private static void tellingOfEachKind() {
        int[] strengths = {0, 1, 9};
        for (int s : strengths) {
            Run run = Run.of("t11;f00" + s, "FORK (1): STRENGTH");
            run.due("tell(0)", s).due("trace()", 1).due("tell(0)", s).due("trace()", 32);
            run = Run.of("t11;s00" + s, "SALT (2): what FORK's gives, and 100").due("tell(0)", s + 100).due("trace()", 63);
            run = Run.of("t11;g00" + s, "GRAVY (3): what SALT's gives, and then once more what FORK's gives (by that body alone)");
            run.due("tell(0)", 2 * s + 100).due("trace()", ((3 * 31 + 2) * 31 + 1) * 31 + 1);
        }
    }

    private static void passedByEach() {
        Run run = Run.of("t11;f001;s001;f101;s101;f011;s011", "PASSED by a lent body (4): the THING's number");
        int trace = 0;
        for (int x = 0; x < 6; x++) {
            trace = 31 * trace + 4;
            run.due("pass(" + x + ")", x).due("trace()", trace);
        }
        run.keeps("pass(6)", -1).keeps("pass(-1)", -1);
        run = Run.of("t11;g001;g001;g101;g101;g011;g019", "GRAVIES have their own (5): 60");
        trace = 0;
        for (int x = 0; x < 6; x++) {
            trace = 31 * trace + 5;
            run.due("pass(" + x + ")", 60).due("trace()", trace);
        }
    }

    private static void takenAsEachKind() {
        Run run = Run.of("t11;f001;s001;g001", "Kinds: 0 FORK; 1 SALT, a FORK; 2 GRAVY, a SALT");
        for (int x = 0; x < 3; x++) {
            for (int kind = 0; kind < 3; kind++) {
                run.keeps("as(" + x + ", " + kind + ")", kind <= x ? 1 : CAST);
            }
            run.keeps("as(" + x + ", -1)", -2).keeps("as(" + x + ", 3)", -2);
        }
        run.keeps("as(3, 0)", -1).keeps("as(3, 3)", -1).keeps("as(-1, 2)", -1);
    }

    private static void traceThatWraps() {
        Run run = Run.of("t11;f001;s001;g001", "an int that wraps, 0 at first, becomes 31 times it and the number");
        int[][] bodies = {{1}, {2, 1}, {3, 2, 1, 1}};
        BigInteger trace = BigInteger.ZERO;
        run.due("trace()", 0);
        for (int k = 0; k < 150; k++) {
            int x = k % 3;
            run.does(k % 2 == 0 ? "tell(" + x + ")" : "pass(" + x + ")");
            int[] begun = k % 2 == 0 ? bodies[x] : new int[] {x == 2 ? 5 : 4};
            for (int body : begun) {
                trace = trace.multiply(BigInteger.valueOf(31)).add(BigInteger.valueOf(body));
            }
            run.due("trace()", trace.intValue());
        }
    }

    private static void refusalsLeaveNoTrace() {
        Run run = Run.of("t11;f001", "as they begin: no body begins").does("tell(0)").does("pass(0)").due("trace()", 35);
        run.keeps("tell(1)", -1).keeps("tell(-1)", -1).keeps("pass(1)", -1).keeps("pass(-1)", -1).keeps("as(0, 1)", CAST);
        run.keeps("as(0, 0)", 1).keeps("trace()", 35);
    }

    // ---- FAULTS

    private static void faultOfTheLatestThatNamesOne() {
        Run run = Run.of(Checks.TEXT, "The FAULT of the latest call that names one").row(0, 0, 1);
        run.due("as(0, 2)", CAST).due("fault()", 2);
        for (String call : NAMING_NONE) {
            run.does(call).due("fault()", 2);
        }
        Run bare = new Run("The FAULT of the latest call that names one, without a table").due("put(0, 0, 0)", NULL);
        for (String call : NAMING_NONE) {
            bare.does(call).due("fault()", 1);
        }
        Run none = new Run("(0 ahead of any)").due("fault()", 0);
        for (String call : NAMING_NONE) {
            none.does(call).due("fault()", 0);
        }
    }

    private static void faultBehind(String call, int fault) {
        Run run = Run.of(Checks.TEXT, "0: it came to none, or was refused").row(0, 0, 0, 1).row(1, 1, 2);
        run.due(AHEAD, NULL).due("fault()", 1).does(call).due("fault()", fault).due("fault()", fault);
    }

    private static void faultOfEachCall() {
        String[] toNone = {
            "table(0, 0, 0, 2)", "table(0, 0, 2, 0)", "dinner(0, 0, 0, 1, 0)", "dinner(0, 0, 0, 0, 1)", "sheet(2, 0, 0)",
            "put(0, 1, 9)", "cell(0, 1, 0)", "copy(0, 0, 0, 0, 2)", "as(2, 2)"
        };
        String[] refused = {
            "table(4, 0, 0, 0)", "table(0, 3, 0, 0)", "dinner(4, 0, 0, 0, 0)", "dinner(0, 3, 0, 0, 0)",
            "dinner(0, 0, 0, 21, 0)", "dinner(0, 0, 0, 0, 4)", "dinner(1, 1, 0, 0, 9)", "sheet(4, 0, 0)", "sheet(0, 3, 0)",
            "sheet(0, 0, 61)", "put(4, 0, 0)", "cell(4, 0, 0)", "cell(0, 0, 3)", "copy(4, 0, 0, 0, 0)", "copy(0, 0, 4, 0, 0)",
            "as(9, 0)", "as(0, 3)"
        };
        String[][] faults = {
            {"table(3, 0, 0, 0)", "dinner(3, 0, 0, 0, 0)", "put(3, 0, 0)", "cell(3, 0, 0)", "copy(3, 0, 0, 0, 0)"},
            {"table(0, 1, 0, 0)", "dinner(0, 1, 0, 0, 0)", "cell(0, 0, 1)", "copy(0, 0, 1, 0, 0)", "as(0, 1)"},
            {"table(0, 0, 3, 0)", "dinner(0, 0, 3, 0, 0)", "put(0, 2, 0)", "cell(0, 2, 0)", "copy(0, 0, 0, 0, 3)"},
            {"table(0, 0, 0, -1)", "sheet(0, 0, -1)"}
        };
        for (String call : toNone) {
            faultBehind(call, 0);
        }
        for (String call : refused) {
            faultBehind(call, 0);
        }
        for (int k = 0; k < faults.length; k++) {
            for (String call : faults[k]) {
                faultBehind(call, k + 1);
            }
        }
    }

    private static void faultBehindRefusals() {
        new Run("refused: STATE").due(AHEAD, NULL).due("dinner(3, 0, 0, 0, 0)", -3).due("fault()", 0);
        Run run = Run.of(Checks.TEXT, "refused: a cell is no THING, no ACT").row(0, 0, 9, 0, 0, 9);
        run.due(AHEAD, NULL).due("dinner(0, 0, 0, 1, 0)", -1).due("fault()", 0);
        run.due(AHEAD, NULL).due("dinner(0, 0, 2, 1, 0)", -2).due("fault()", 0);
        run.due(AHEAD, NULL).due("odds(0, 2)", TableWar.LOST).due("fault()", 1);
        run.due("cell(0, 0, 3)", TableWar.LOST).due("fault()", 0);
    }

    private static void howManyFromNoneToAll() {
        Run run = new Run("How many (0 all without a TABLE)");
        run.keeps("many(0)", 0).keeps("many(1)", 0).keeps("many(2)", 0).keeps("many(3)", 0);
        run.keeps("many(-1)", -2).keeps("many(4)", -2).keeps("many(LEAST)", -2).keeps("many(MOST)", -2);
        for (int many = 1; many <= 6; many++) {
            run = Run.of("t" + "1".repeat(Math.max(2, many)) + ";f001".repeat(many), "How many: 0 THINGS, 1 CELLS, 2 that are EATEN");
            run.due("many(0)", many).due("many(1)", Math.max(2, many)).due("many(2)", 0);
            for (int x = 0; x < many; x++) {
                run.does("act(" + x + ", 2)").due("many(2)", x + 1);
            }
            run.due("many(0)", many).keeps("many(4)", -2).keeps("many(-1)", -2);
        }
    }
}
