/** The edges that the document names of GOOD, SAFE and NEED (promises 13 to 15). */
public final class MoveEdgesTest {
    private static final int NONE = TableWar.NONE;

    public static void main(String[] args) {
        leadFromTheLeastToTheMost();
        leadOfEvenLands();
        theActThatCanBe();
        ofSeveralTheLeast();
        noneIfAllAreEaten();
        noneIfThereAreNone();
        safeAgainstNobody();
        safeAgainstTheGoodOne();
        moveOfALastThing();
        needOfNoStep();
        needOfTheMostSteps();
        needOfMoreThanEqual();
        needOfThingsTogether();
        needOfWhatIsEaten();
        needOfEachCell();
        Checks.end();
    }

    private static void move(Run run, String name, int h, int thing, int act, int lead) {
        run.keeps(name + "(" + h + ", 0)", thing);
        run.keeps(name + "(" + h + ", 1)", act);
        run.keeps(name + "(" + h + ", 2)", lead);
    }

    private static void none(Run run, int h) {
        move(run, "good", h, NONE, NONE, NONE);
        move(run, "safe", h, NONE, NONE, NONE);
    }

    private static void leadFromTheLeastToTheMost() {
        String all = "t999999;f001;f001;f021;f031;f041;f051";
        Run run = Run.of(all, "LEAD of a HOUSE: 100 and its LAND, 54 at most");
        move(run, "good", 0, 0, 1, 154);
        move(run, "safe", 0, 0, 1, 154);
        run = Run.of(all.replace("f0", "f1"), "LEAD of HOUSE 1");
        move(run, "good", 1, 0, 1, 154);
        move(run, "safe", 1, 0, 1, 154);
        run = Run.of("t999999;f000;f111;f121;f131;f141;f151", "less that of the other one");
        move(run, "good", 0, 0, 1, 55);
        move(run, "safe", 0, 0, 1, 55);
        move(run, "good", 1, 1, 0, 145);
        move(run, "safe", 1, 1, 0, 145);
    }

    private static void leadOfEvenLands() {
        Run run = Run.of("t00;f009;f119", "LEAD of no ACRES");
        move(run, "good", 0, 0, 1, 100);
        move(run, "good", 1, 1, 0, 100);
        move(run, "safe", 0, 0, 1, 100);
        move(run, "safe", 1, 1, 0, 100);
        run = Run.of("t9009;f012;f122", "LEAD of even LANDS");
        move(run, "good", 0, 0, 0, 109);
        move(run, "good", 1, 1, 1, 109);
        move(run, "safe", 0, 0, 0, 100);
        move(run, "safe", 1, 1, 1, 100);
    }

    private static void theActThatCanBe() {
        move(Run.of("t90;f001", "the ACT (that can be): none to a lesser CELL"), "good", 0, 0, 1, 100);
        move(Run.of("t09;f011", "the ACT (that can be): none to a greater CELL"), "good", 0, 0, 0, 100);
        move(Run.of("t90;f001", "SAFE: none to a lesser CELL"), "safe", 0, 0, 1, 100);
        move(Run.of("t09;f011", "SAFE: none to a greater CELL"), "safe", 0, 0, 0, 100);
        Run run = Run.of("t000009;f151", "the ACT (that can be) in the last of six").does("act(0, 0)");
        move(run, "good", 1, 0, 1, 109);
        run.due("act(0, 1)", 5);
        move(run, "good", 1, 0, 0, 100);
    }

    private static void ofSeveralTheLeast() {
        Run run = Run.of("t000;f111;f011;f011", "of several the least THING, then the least ACT");
        move(run, "good", 0, 1, 0, 100);
        move(run, "good", 1, 0, 0, 100);
        move(run, "safe", 0, 1, 0, 100);
        move(run, "safe", 1, 0, 0, 100);
        run = Run.of("t000;f001;f011", "the least THING ahead of the least ACT");
        move(run, "good", 0, 0, 1, 100);
        move(run, "safe", 0, 0, 1, 100);
        run = Run.of("t505;f010;f011", "LEAD ahead of the least THING");
        move(run, "good", 0, 1, 0, 105);
        move(run, "safe", 0, 1, 0, 105);
        run = Run.of("t506;f010;f011", "LEAD ahead of the least ACT");
        move(run, "good", 0, 1, 1, 106);
        move(run, "safe", 0, 1, 1, 106);
        run = Run.of("t11;f100;f100;f100;f100;f100;f010", "the last THING");
        move(run, "good", 0, 5, 0, 100);
        move(run, "safe", 0, 5, 0, 100);
    }

    private static void noneIfAllAreEaten() {
        Run run = Run.of("t12;f001;f011;f111", "NONE: all its THINGS are EATEN").does("act(0, 2)");
        move(run, "good", 0, 1, 0, 99);
        run.does("act(1, 2)");
        none(run, 0);
        move(run, "good", 1, 2, 0, 101);
        move(run, "safe", 1, 2, 0, 101);
        run.does("act(2, 2)");
        none(run, 0);
        none(run, 1);
        run.due("serve()", 3);
        move(run, "good", 0, 0, 1, 102);
        move(run, "good", 1, 2, 0, 98);
    }

    private static void noneIfThereAreNone() {
        none(Run.of("t12;f001", "NONE: it has no THINGS"), 1);
        none(Run.of("t12;f101;g119", "NONE: it has no THINGS"), 0);
    }

    private static void safeAgainstNobody() {
        Run run = Run.of("t19;f001;f112", "behind that and then the GOOD one of the other HOUSE (none, if that has none)");
        // the other house must leave the 9 acres
        move(run, "safe", 0, 0, 1, 108);
        run.does("act(1, 2)");
        move(run, "safe", 0, 0, 1, 109);
        move(Run.of("t19;f001", "none, if that has none"), "safe", 0, 0, 1, 109);
        move(Run.of("t19;f111", "none, if that has none"), "safe", 1, 0, 0, 101);
    }

    private static void safeAgainstTheGoodOne() {
        Run run = Run.of("t951;f002;f020;f111", "SAFE is not GOOD");
        move(run, "good", 0, 0, 1, 105);
        move(run, "safe", 0, 1, 0, 108);
        run = Run.of("t159;f120;f002;f111", "the other THING's number is less");
        move(run, "good", 0, 1, 1, 105);
    }

    /** Its only thing may be eaten by it, but goes rather. */
    private static void moveOfALastThing() {
        Run run = Run.of("t99;f000;g109;g119", "the ACT of one of its THINGS, that is the only one");
        move(run, "good", 0, 0, 1, 82);
        move(run, "safe", 0, 0, 1, 91);
    }

    // ---- NEED

    private static void needOfNoStep() {
        Run run = Run.of("t00;f001;f111", "NEED: the fewest STEPS: none if it HOLDS it");
        run.keeps("need(0, 0)", 0).keeps("need(1, 1)", 0).keeps("need(0, 1)", NONE).keeps("need(1, 0)", NONE);
        run.does("arm(0, 2)").keeps("need(0, 1)", 1).keeps("need(1, 0)", NONE);
    }

    private static void needOfTheMostSteps() {
        String text = "t000000;f001;f001;f001;f001;f001;f154";
        Run run = Run.of(text, "the fewest STEPS of its THINGS together: five by five");
        run.keeps("need(0, 5)", 25).does("arm(5, 3)").keeps("need(0, 5)", 20).does("arm(5, 0)").keeps("need(0, 5)", 5);
        run.does("arm(5, 5)").keeps("need(0, 5)", NONE);
        run = Run.of("t000000;f104;f051;f051;f051;f051;f051", "to the least CELL");
        run.keeps("need(0, 0)", 25).keeps("need(0, 1)", 4).keeps("need(1, 5)", NONE).keeps("need(1, 4)", 4);
    }

    private static void needOfMoreThanEqual() {
        Run run = Run.of("t000;f003;f123", "behind which it HOLDS it; NONE: there are none");
        run.keeps("need(0, 2)", NONE).keeps("need(1, 0)", NONE).keeps("need(0, 1)", 1).keeps("need(1, 1)", 1);
        run.does("arm(0, 4)").keeps("need(0, 2)", 2).does("arm(0, 2)").keeps("need(0, 2)", NONE);
        run.does("act(1, 2)").keeps("need(0, 2)", 2).keeps("need(1, 2)", NONE);
        run.does("arm(0, 0)").keeps("need(0, 2)", NONE).keeps("need(0, 0)", NONE);
    }

    private static void needOfThingsTogether() {
        Run run = Run.of("t000000;f106;f013;f024;f037;f049", "of its THINGS together");
        run.keeps("need(0, 0)", 3);
        run.does("arm(0, 7)").keeps("need(0, 0)", 4).does("arm(0, 9)").keeps("need(0, 0)", 4);
        run.does("arm(3, 0)").keeps("need(0, 0)", 5).does("arm(1, 0)").does("arm(2, 0)").keeps("need(0, 0)", NONE);
        run.does("arm(0, 8)").keeps("need(0, 0)", 4);
    }

    private static void needOfWhatIsEaten() {
        Run run = Run.of("t000;f013;f025;f104", "what is EATEN has none, and is nowhere");
        run.keeps("need(0, 0)", 2).does("act(1, 2)").keeps("need(0, 0)", NONE).keeps("need(0, 2)", 1);
        run.does("act(2, 2)").keeps("need(0, 0)", 1).keeps("need(1, 0)", NONE).keeps("need(1, 2)", NONE);
        run.does("act(0, 2)").keeps("need(0, 0)", NONE).keeps("need(0, 1)", NONE);
        run.due("serve()", 3).keeps("need(0, 0)", 2).keeps("need(1, 0)", 0);
    }

    private static void needOfEachCell() {
        for (int at = 0; at < 6; at++) {
            Run run = Run.of("t000000;g1" + at + "0", "STEPS (from one CELL to the next)");
            for (int c = 0; c < 6; c++) {
                run.due("need(1, " + c + ")", Math.abs(at - c)).due("need(0, " + c + ")", NONE);
            }
        }
    }
}
