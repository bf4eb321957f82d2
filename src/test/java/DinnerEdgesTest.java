/** The edges that the document names of ACTS, serving and DINNERS (promises 10 to 12). */
public final class DinnerEdgesTest {
    private static final int NONE = TableWar.NONE, STATE = TableWar.STATE;
    private static final int[] ALL_WHATS = {0, 1, 2, 3, 10, 11, 12, 13, 14, 15, 20, 21, 22, 23, 24, 25};

    public static void main(String[] args) {
        fromTheLeastCellToTheGreatest();
        actsOfWhatIsEaten();
        servedWhereItWasLast();
        servedInTheLeastAndTheGreatestCell();
        pairsFromNoneToTwenty();
        cellsOfADinner();
        pairsBehindTheLast();
        pairsOfEachLane();
        firstWrongAtTheFirstAndTheLastPair();
        firstWrongOutOfTurn();
        firstWrongNoSuchCell();
        firstWrongEaten();
        firstOfSeveralWrong();
        wrongWhateverIsAsked();
        nothingIsChanged();
        fromHowAllIsNow();
        thingsAndCellsThatThereAreNot();
        landFromNoneToAll();
        Checks.end();
    }

    private static void fromTheLeastCellToTheGreatest() {
        for (int cells = 2; cells <= 6; cells++) {
            Run run = Run.of("t" + "1".repeat(cells) + ";f103", "to the next greater one (if there is one), of " + cells);
            run.keeps("act(0, 0)", STATE);
            for (int c = 1; c < cells; c++) {
                run.due("act(0, 1)", c).due("might(1, " + c + ")", 3).due("might(1, " + (c - 1) + ")", 0);
            }
            run.keeps("act(0, 1)", STATE);
            for (int c = cells - 2; c >= 0; c--) {
                run.due("act(0, 0)", c).due("ofThing(0, 2)", c);
            }
            run.keeps("act(0, 0)", STATE);
        }
    }

    private static void actsOfWhatIsEaten() {
        Run run = Run.of("t111;f013;f113", "ACTS of a THING that is not EATEN").due("act(0, 2)", NONE);
        run.keeps("act(0, 0)", STATE).keeps("act(0, 1)", STATE).keeps("act(0, 2)", STATE);
        run.due("ofThing(0, 2)", NONE).due("many(2)", 1).due("act(1, 0)", 0).due("serve()", 1).due("act(0, 1)", 2);
    }

    private static void servedWhereItWasLast() {
        Run run = Run.of("t111111;f001;f111;f021;f131;f041;f151", "each in the CELL where it was last: how many are served");
        run.keeps("serve()", 0);
        for (int x = 0; x < 6; x++) {
            int c = x < 5 ? x + 1 : 4;
            run.due("act(" + x + ", " + (x < 5 ? 1 : 0) + ")", c).due("act(" + x + ", 2)", NONE).due("many(2)", x + 1);
        }
        run.due("land(0)", 0).due("land(1)", 0).due("serve()", 6).due("many(2)", 0);
        for (int x = 0; x < 6; x++) {
            run.due("ofThing(" + x + ", 2)", x < 5 ? x + 1 : 4).due("ofThing(" + x + ", 4)", 1);
        }
        run.keeps("serve()", 0).due("act(2, 2)", NONE).due("serve()", 1).due("ofThing(2, 2)", 3);
    }

    private static void servedInTheLeastAndTheGreatestCell() {
        Run run = Run.of("t111111;g009;g159", "the CELL where it was last: 0 and 5");
        run.does("act(0, 2)").does("act(1, 2)").due("holds(0)", NONE).due("holds(5)", NONE).due("serve()", 2);
        run.due("ofThing(0, 2)", 0).due("ofThing(1, 2)", 5).due("might(0, 0)", 20).due("might(1, 5)", 20);
    }

    /** Pairs by which the houses' first things go up and down in turn. */
    private static int[] upAndDown(int pairs) {
        int[] numbers = new int[2 * pairs];
        for (int p = 0; p < pairs; p++) {
            numbers[2 * p] = p % 2;
            numbers[2 * p + 1] = p / 2 % 2 == 0 ? 1 : 0;
        }
        return numbers;
    }

    private static void pairsFromNoneToTwenty() {
        Run run = Run.of("t12;f001;f101", "n (0 .. 20)").row(0, 0, upAndDown(22));
        run.keeps("dinner(0, 0, 0, -1, 1)", -2).keeps("dinner(0, 0, 0, 21, 1)", -2).keeps("dinner(0, 0, 0, 22, 1)", -2);
        for (int n = 0; n <= 20; n++) {
            String begin = "dinner(0, 0, 0, " + n + ", ";
            run.due(begin + "1)", NONE).due(begin + "10)", (n + 1) / 2 % 2).due(begin + "11)", n / 2 % 2);
        }
    }

    private static void cellsOfADinner() {
        int[] numbers = new int[60];
        System.arraycopy(upAndDown(20), 0, numbers, 20, 40);
        Run run = Run.of("t12;f001;f101", "n pairs, that are cells of a SHEET from i on (2 n)").row(0, 1, numbers);
        run.due("dinner(0, 1, 20, 20, 1)", NONE).keeps("dinner(0, 1, 21, 20, 1)", Checks.INDEX);
        run.due("dinner(0, 1, 22, 19, 1)", 0).due("dinner(0, 1, 24, 18, 1)", 0).due("dinner(0, 1, 20, 19, 1)", NONE);
        run.due("dinner(0, 1, 60, 0, 1)", NONE).keeps("dinner(0, 1, 61, 0, 1)", Checks.INDEX);
        run.keeps("dinner(0, 1, 59, 1, 1)", Checks.INDEX).keeps("dinner(0, 1, 58, 2, 1)", Checks.INDEX);
        run = Run.of("t12;f001;f101", "cells of an odd row").row(0, 2, 0, 1, 1);
        run.due("dinner(0, 2, 0, 1, 10)", 1).due("dinner(0, 2, 1, 1, 1)", 0).due("dinner(0, 2, 3, 0, 1)", NONE);
        run.keeps("dinner(0, 2, 2, 1, 1)", Checks.INDEX).keeps("dinner(0, 2, 0, 2, 1)", Checks.INDEX);
        run.does("sheet(0, 2, 0)").due("dinner(0, 2, 0, 0, 0)", 0).keeps("dinner(0, 2, 0, 1, 0)", Checks.INDEX);
        run.keeps("dinner(0, 2, 1, 0, 0)", Checks.INDEX).keeps("dinner(0, 2, -1, 0, 0)", Checks.INDEX);
    }

    private static void pairsBehindTheLast() {
        Run run = Run.of("t12;f001;f101", "a DINNER of n pairs: what stands ahead of and behind them is none of it");
        run.row(0, 1, 9, 9, 0, 1, 1, 1, 0, 9, 9, 0, 0, 1);
        run.keeps("dinner(0, 1, 0, 0, 1)", NONE).keeps("dinner(0, 1, 2, 1, 1)", NONE).keeps("dinner(0, 1, 2, 2, 1)", NONE);
        run.keeps("dinner(0, 1, 2, 3, 1)", -2).keeps("dinner(0, 1, 2, 5, 1)", -2).keeps("dinner(0, 1, 0, 1, 1)", -1);
        run.keeps("dinner(0, 1, 8, 1, 1)", -1).keeps("dinner(0, 1, 8, 2, 1)", -1).keeps("dinner(0, 1, 10, 1, 1)", NONE);
    }

    private static void pairsOfEachLane() {
        for (int lane = 0; lane < 3; lane++) {
            Run run = Run.of("t12;f001;f101", "cut to its LANE " + lane).row(0, lane, 256, 257, 65537, 65536);
            String begin = "dinner(0, " + lane + ", 0, ";
            run.due(begin + "1, 10)", lane == 0 ? 1 : -1).due(begin + "2, 1)", lane == 0 ? 1 : -1);
            String second = "dinner(0, " + lane + ", 2, 1, 1)";
            run.due(second, lane < 2 ? 0 : -1);
        }
    }

    private static void firstWrongAtTheFirstAndTheLastPair() {
        int[] pairs = upAndDown(20);
        Run run = Run.of("t12;f001;f101", "told by its place among the pairs, from 0 on");
        run.row(0, 0, pairs).due("dinner(0, 0, 0, 20, 1)", NONE);
        run.does("put(0, 39, 0)").due("dinner(0, 0, 0, 20, 1)", NONE).does("put(0, 39, 1)");
        run.keeps("dinner(0, 0, 0, 20, 1)", 19).keeps("dinner(0, 0, 0, 20, 0)", -119).due("dinner(0, 0, 0, 19, 1)", NONE);
        run.does("put(0, 1, 0)").keeps("dinner(0, 0, 0, 20, 1)", 0).keeps("dinner(0, 0, 0, 20, 0)", -100);
        run.keeps("dinner(0, 0, 0, 1, 1)", 0).keeps("dinner(0, 0, 0, 0, 1)", NONE);
    }

    private static Run dinner(String sentence, int want, int... pairs) {
        Run run = Run.of("t453;f003;s112;g021;f122", sentence).row(0, 0, pairs);
        return run.keeps("dinner(0, 0, 0, " + pairs.length / 2 + ", 1)", want);
    }

    private static void firstWrongOutOfTurn() {
        String sentence = "out of turn (first one of HOUSE 0, then one of HOUSE 1, and so on)";
        dinner(sentence, 0, 1, 0);
        dinner(sentence, NONE, 0, 1);
        dinner(sentence, 1, 0, 1, 0, 0);
        dinner(sentence, 1, 0, 1, 2, 0);
        dinner(sentence, NONE, 0, 1, 3, 0);
        dinner(sentence, 2, 0, 1, 3, 0, 1, 1);
        dinner(sentence, NONE, 0, 1, 3, 0, 2, 0);
        dinner(sentence, 3, 0, 1, 3, 0, 2, 0, 0, 0);
        dinner(sentence, NONE, 0, 1, 3, 0, 2, 0, 1, 0);
    }

    private static void firstWrongNoSuchCell() {
        String sentence = "or that goes where there is no CELL";
        dinner(sentence, 0, 0, 0);
        dinner(sentence, 0, 2, 1);
        dinner(sentence, 1, 0, 1, 3, 1);
        dinner(sentence, 2, 0, 1, 1, 0, 2, 1);
        dinner(sentence, 3, 0, 1, 1, 0, 0, 0, 1, 0);
        dinner(sentence, NONE, 0, 1, 1, 0, 0, 1, 1, 1);
        dinner(sentence, 4, 0, 1, 1, 0, 0, 1, 1, 1, 0, 1);
    }

    private static void firstWrongEaten() {
        String sentence = "the first of a THING that is EATEN";
        for (int act = 0; act < 3; act++) {
            dinner(sentence, 2, 2, 2, 1, 0, 2, act);
            dinner(sentence, 3, 0, 1, 1, 2, 2, 0, 1, act);
            Run run = Run.of("t453;f013;s112", sentence).does("act(0, 2)").row(0, 0, 0, act);
            run.keeps("dinner(0, 0, 0, 1, 1)", 0).keeps("dinner(0, 0, 0, 1, 3)", -100);
            run.due("serve()", 1).due("dinner(0, 0, 0, 1, 1)", NONE);
        }
        dinner(sentence, NONE, 0, 2, 1, 2, 2, 2, 3, 2);
    }

    private static void firstOfSeveralWrong() {
        dinner("the first of them", 1, 0, 1, 0, 0, 2, 1, 0, 2);
        dinner("the first of them", 0, 0, 0, 0, 0, 1, 0);
        dinner("the first of them", 2, 0, 2, 3, 2, 0, 1, 3, 0);
    }

    private static void wrongWhateverIsAsked() {
        Run run = Run.of("t45;f003", "of one with a FIRST WRONG: -100 less that (but what 1)").row(0, 0, 0, 1, 0, 0);
        for (int what : ALL_WHATS) {
            run.keeps("dinner(0, 0, 0, 2, " + what + ")", what == 1 ? 1 : -101);
        }
    }

    private static void nothingIsChanged() {
        Run run = Run.of(Checks.TEXT, "nothing is changed").does("reading(1, 1)").row(0, 2, 2, 2, 3, 0, 0, 1, 1, 2);
        for (int what : ALL_WHATS) {
            for (int n = 0; n <= 4; n += 2) {
                run.keeps("dinner(0, 2, 0, " + n + ", " + what + ")", wantOf(n, what));
            }
        }
    }

    /** The gravy is eaten, the other house's fork comes to cell 1; then the fork does too, the salt is eaten. */
    private static long wantOf(int n, int what) {
        int[][] wants = {
            {7, NONE, 5, 0, 0, 1, 2, 2, NONE, NONE, 0, 1, 0, NONE, NONE, NONE},
            {4, NONE, 5, 1, 0, 1, NONE, 1, NONE, NONE, 0, 1, NONE, NONE, NONE, NONE},
            {5, NONE, 0, 2, 1, NONE, NONE, 1, NONE, NONE, NONE, 0, NONE, NONE, NONE, NONE}
        };
        for (int k = 0; k < ALL_WHATS.length; k++) {
            if (ALL_WHATS[k] == what) {
                return wants[n / 2][k];
            }
        }
        throw new IllegalArgumentException("what " + what);
    }

    private static void fromHowAllIsNow() {
        Run run = Run.of(Checks.TEXT, "from how all is now; how many THINGS are EATEN then in all").row(0, 0, 0, 2, 1, 2);
        run.does("act(3, 0)").does("act(3, 2)").does("stain(2, 9)").does("arm(2, 4)");
        run.due("dinner(0, 0, 0, 0, 3)", 1).due("dinner(0, 0, 0, 1, 3)", 2).due("dinner(0, 0, 0, 2, 3)", 3);
        run.due("dinner(0, 0, 0, 2, 13)", NONE).due("dinner(0, 0, 0, 2, 0)", 9).due("dinner(0, 0, 0, 2, 2)", 0);
        run.due("many(2)", 1).due("serve()", 1).due("ofThing(3, 2)", 1).due("dinner(0, 0, 0, 0, 13)", 1);
    }

    private static void thingsAndCellsThatThereAreNot() {
        for (int many = 1; many <= 6; many++) {
            Run run = Run.of("t" + "1".repeat(Math.max(2, many)) + ";f001".repeat(many), "NONE: there is no such THING, CELL");
            run.row(0, 0, 0, 1);
            for (int k = 0; k < 6; k++) {
                run.due("dinner(0, 0, 0, 1, " + (10 + k) + ")", k >= many ? NONE : k == 0 ? 1 : 0);
                int holder = k == 1 || k == 0 && many > 1 ? 0 : NONE;
                run.due("dinner(0, 0, 0, 1, " + (20 + k) + ")", holder);
            }
            run.keeps("dinner(0, 0, 0, 1, 9)", -2).keeps("dinner(0, 0, 0, 1, 16)", -2);
            run.keeps("dinner(0, 0, 0, 1, 19)", -2).keeps("dinner(0, 0, 0, 1, 26)", -2);
            run.keeps("dinner(0, 0, 0, 1, 4)", -2).keeps("dinner(0, 0, 0, 1, -1)", -2);
        }
        Run run = Run.of("t111111;f001;s111;g121;f131;f141;f140", "the last THING, the last CELL").row(0, 0, 0, 2, 5, 1);
        run.due("dinner(0, 0, 0, 2, 15)", 5).due("dinner(0, 0, 0, 2, 25)", NONE).does("arm(5, 1)");
        run.due("dinner(0, 0, 0, 2, 25)", 1).due("dinner(0, 0, 0, 2, 20)", NONE).due("dinner(0, 0, 0, 2, 10)", NONE);
    }

    private static void landFromNoneToAll() {
        Run run = Run.of("t999999;f001;f001;f021;f031;f041;f051", "LAND of HOUSE 0 behind it").row(0, 0, 0, 1);
        run.due("dinner(0, 0, 0, 0, 0)", 45).due("dinner(0, 0, 0, 1, 0)", 54).due("dinner(0, 0, 0, 1, 2)", 0);
        run = Run.of("t999999;f000;f101;f121;f131;f141;f151", "LAND of HOUSE 1 (2)").row(0, 0, 0, 2, 1, 0);
        run.due("dinner(0, 0, 0, 1, 2)", 45).due("dinner(0, 0, 0, 1, 0)", 0);
    }
}
