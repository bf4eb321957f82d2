/** The edges that the document names of texts, MIGHT, HELD and LAND (promises 1 to 9). */
public final class TableEdgesTest {
    public static void main(String[] args) {
        nothingAtFirst();
        objectsShareNothing();
        cellsOfAText();
        thingsOfAText();
        codesOfAText();
        codesOfLanes();
        cellsThatThereAre();
        firstFaultOfThoseThatEndTooSoon();
        placesFromTheFirstCodeOn();
        codesBehindTheLast();
        numberedFromZeroOn();
        allAnew();
        notTaken();
        mightOfAThing();
        mightOfAHouse();
        held();
        landOfAHouse();
        stainFromAndTo();
        armFromAndTo();
        theLastCall();
        Checks.end();
    }

    private static void nothingAtFirst() {
        Run run = new Run("No TABLE (no CELLS, THINGS), SHEETS have nothing");
        run.due("fault()", 0).due("trace()", 0).due("many(0)", 0).due("many(1)", 0).due("many(2)", 0).due("many(3)", 0);
        for (int k = 0; k < 4; k++) {
            for (int lane = 0; lane < 3; lane++) {
                run.lost("cell(" + k + ", 0, " + lane + ")", 1);
            }
            run.keeps("lose(" + k + ")", 0);
        }
        run.due("land(0)", TableWar.STATE).due("acres(0)", -1).due("ofThing(0, 0)", -1).due("need(0, 0)", -1);
    }

    private static void objectsShareNothing() {
        Run one = Run.of("t45;g019", "A new object").row(0, 0, 7).does("reading(1, 0)").does("tell(0)").does("act(0, 2)");
        Run other = new Run("A new object, beside another one").due("many(0)", 0).due("trace()", 0).due("lose(0)", 0);
        other.lay("t99;f101;f102;f103").due("many(3)", 0).due("many(2)", 0).due("fault()", 0).row(0, 2, 5, 6);
        one.due("many(0)", 1).due("many(2)", 1).due("many(3)", 1).due("acres(0)", 4).due("cell(0, 0, 0)", 7);
        one.due("trace()", ((3 * 31 + 2) * 31 + 1) * 31 + 1).due("serve()", 1).due("dinner(0, 0, 0, 0, 0)", 5);
        other.due("land(1)", 9).due("dinner(0, 2, 0, 0, 2)", 9).due("cell(0, 1, 2)", 6);
    }

    // ---- texts

    private static int taken(String text, int lane) {
        TableWar war = new TableWar();
        Checks.write(war, 0, lane, Checks.codes(text));
        return war.table(0, lane, 0, text.length());
    }

    private static String things(int many) {
        return ";f000".repeat(many);
    }

    private static void cellsOfAText() {
        for (int cells = 0; cells <= 8; cells++) {
            String text = "t" + "0123456789".substring(0, cells) + things(1);
            Run run = Run.of(Checks.TEXT, "2 to 6 digits, of " + cells);
            run.row(0, 1, Checks.codes(text));
            String call = "table(0, 1, 0, " + text.length() + ")";
            if (cells < 2) {
                run.keeps(call, -101 - cells).due("many(1)", 3);
            } else if (cells > 6) {
                run.keeps(call, -107).due("many(1)", 3);
            } else {
                run.due(call, 1).due("many(1)", cells).due("acres(" + (cells - 1) + ")", cells - 1);
                run.due("acres(" + cells + ")", -1);
            }
        }
    }

    private static void thingsOfAText() {
        for (int cells = 2; cells <= 6; cells++) {
            for (int many = 0; many <= 8; many++) {
                String text = "t" + "1".repeat(cells) + things(many);
                int want = many == 0 ? -101 - cells : many;
                Checks.due("1 to 6 THINGS: " + text, taken(text, many % 3), many > 6 ? -131 - cells : want);
            }
            String six = "t" + "1".repeat(cells) + things(6);
            for (String behind : new String[] {";", ";f", "0", "f", "t"}) {
                Checks.due("the ; of a seventh THING: " + six + behind, taken(six + behind, 2), -131 - cells);
            }
        }
    }

    /** The text t45;g113 with another code at a place: what table answers. */
    private static int dueWith(int place, int code) {
        boolean isDigit = code >= 48 && code <= 57;
        switch (place) {
            case 0: return code == 116 ? 1 : -100;
            case 1: return isDigit ? 1 : -101;
            case 2: return isDigit ? 1 : -102;
            // a digit more is a third CELL, that the letter can't follow
            case 3: return code == 59 ? 1 : isDigit ? -104 : -103;
            case 4: return code == 102 || code == 115 || code == 103 ? 1 : -104;
            case 5: return code == 48 || code == 49 ? 1 : -105;
            case 6: return code == 48 || code == 49 ? 1 : -106;
            default: return isDigit ? 1 : -107;
        }
    }

    private static void codesOfAText() {
        int[] codes = Checks.codes("t45;g113");
        for (int place = 0; place < codes.length; place++) {
            for (int code = -128; code < 128; code++) {
                int[] with = codes.clone();
                with[place] = code;
                TableWar war = new TableWar();
                Checks.write(war, 0, 0, with);
                String told = "Codes: " + code + " at place " + place;
                Checks.due(told, war.table(0, 0, 0, codes.length), dueWith(place, code));
                Checks.due(told + ": fault()", war.fault(), 0);
            }
        }
        Run run = Run.of("t09;f009;s110;g001", "digits 48 .. 57, letters of kinds");
        run.due("acres(0)", 0).due("acres(1)", 9);
        run.due("ofThing(0, 0)", 0).due("ofThing(1, 0)", 1).due("ofThing(2, 0)", 2);
        run.due("ofThing(0, 1)", 0).due("ofThing(1, 1)", 1);
        run.due("ofThing(0, 2)", 0).due("ofThing(1, 2)", 1);
        run.due("ofThing(0, 3)", 9).due("ofThing(1, 3)", 0);
    }

    private static int withAdded(int lane, int place, int added) {
        int[] codes = Checks.codes("t45;g113");
        codes[place] += added;
        TableWar war = new TableWar();
        Checks.write(war, 0, lane, codes);
        return war.table(0, lane, 0, codes.length);
    }

    /** A byte's code is cut, one of a wider LANE is another code. */
    private static void codesOfLanes() {
        for (int place = 0; place < 8; place++) {
            String told = "what comes to a cell of it is cut to its LANE: code at place " + place;
            for (int added : new int[] {256, -256, 65536, -65536, 1 << 31}) {
                boolean isCutByShort = added % 65536 == 0;
                Checks.due(told + ", byte", withAdded(0, place, added), 1);
                Checks.due(told + ", short", withAdded(1, place, added), isCutByShort ? 1 : -100 - place);
                Checks.due(told + ", int", withAdded(2, place, added), -100 - place);
            }
        }
    }

    private static void cellsThatThereAre() {
        for (int cells = 2; cells <= 6; cells++) {
            String begin = "t" + "1".repeat(cells);
            for (int c = 0; c < 10; c++) {
                int want = c < cells ? 2 : -109 - cells;
                Checks.due("a CELL that there is: " + c + " of " + cells, taken(begin + ";f000;s1" + c + "9", 1), want);
            }
        }
    }

    private static void firstFaultOfThoseThatEndTooSoon() {
        String most = "t123456;f050;s151;g052;f153;s054;g159";
        for (int n = 0; n <= most.length(); n++) {
            Run run = new Run("how many codes there are, if it just ends too soon: " + n);
            run.row(0, 0, Checks.codes(most + "xx"));
            boolean isWhole = n > 7 && (n - 7) % 5 == 0;
            run.due("table(0, 0, 0, " + n + ")", isWhole ? (n - 7) / 5 : -100 - n).due("fault()", 0);
        }
        for (int n = 0; n <= 7; n++) {
            Checks.due("t and " + n + " digits", taken("t1234567".substring(0, n + 1), 0), -100 - Math.min(n + 1, 7));
        }
        Checks.due("no code at all", taken("", 2), -100);
    }

    private static void placesFromTheFirstCodeOn() {
        String most = "t123456;f050;s151;g052;f153;s054;g159";
        int[] row = new int[60];
        System.arraycopy(Checks.codes(most), 0, row, 23, 37);
        Run run = new Run("cells of a SHEET from i on: the place is from 0 on").row(1, 1, row);
        run.due("table(1, 1, 23, 37)", 6).keeps("table(1, 1, 24, 37)", Checks.INDEX);
        run.keeps("table(1, 1, 23, 38)", Checks.INDEX).keeps("table(1, 1, 24, 36)", -100);
        run.keeps("table(1, 1, 22, 37)", -100).keeps("table(1, 1, 60, 0)", -100).keeps("table(1, 1, 61, 0)", Checks.INDEX);
        run.keeps("table(1, 1, 23, 36)", -136).due("put(1, 26, 58)", 1).keeps("table(1, 1, 23, 37)", -103);
    }

    private static void codesBehindTheLast() {
        Run run = new Run("n cells: what stands ahead of and behind them is none of the TEXT");
        run.row(0, 2, Checks.codes("t4t45;g1137;f0019"));
        run.due("table(0, 2, 2, 8)", 1).due("many(0)", 1).due("many(1)", 2).due("ofThing(0, 3)", 3).due("ofThing(0, 4)", 8);
        run.keeps("table(0, 2, 2, 9)", -108).keeps("table(0, 2, 0, 10)", -102).keeps("table(0, 2, 2, 7)", -107);
    }

    private static void numberedFromZeroOn() {
        Run run = Run.of("t987654;f001;s012;g023;f134;s145;g156", "numbered from 0 on");
        for (int k = 0; k < 6; k++) {
            run.due("acres(" + k + ")", 9 - k).due("ofThing(" + k + ", 2)", k).due("ofThing(" + k + ", 3)", k + 1);
            run.due("ofThing(" + k + ", 1)", k / 3).due("ofThing(" + k + ", 0)", k % 3);
        }
    }

    private static void allAnew() {
        Run run = Run.of("t111111;f001;s012;g023;f134;s145;g156", "A TEXT that is taken makes all anew");
        run.row(0, 1, 7, -8).does("tell(2)").does("pass(2)").does("stain(0, 9)").does("arm(0, 9)");
        for (int k = 0; k < 8; k++) {
            run.does("reading(0, 0)");
        }
        for (int x = 0; x < 6; x++) {
            run.does("act(" + x + ", " + (x < 5 ? 1 : 0) + ")").does("act(" + x + ", 2)");
        }
        run.row(1, 0, 0, 2, 3, 2).due("many(2)", 6).due("trace()", ((3 * 31 + 2) * 31 + 1) * 31 * 31 + 31 + 5);
        run.lay("t23;s015");
        run.due("many(0)", 1).due("many(1)", 2).due("many(2)", 0).due("many(3)", 0).due("serve()", 0);
        run.due("acres(0)", 2).due("acres(2)", -1).due("ofThing(1, 0)", -1).due("ofThing(0, 2)", 1).due("ofThing(0, 4)", 6);
        run.due("strengths(0)", 1023).due("reading(1, 0)", 0);
        run.due("trace()", ((3 * 31 + 2) * 31 + 1) * 31 * 31 + 31 + 5);
        run.due("cell(0, 0, 1)", 7).due("cell(0, 1, 1)", -8).lost("cell(0, 2, 1)", 3).lost("cell(2, 0, 1)", 1);
        run.lay("t111111;f001;s012;g023;f134;s145;g156");
        run.due("many(2)", 0).due("serve()", 0).due("acres(0)", 1).due("ofThing(0, 3)", 1).due("ofThing(0, 2)", 0);
        // what was eaten at a dinner is not eaten behind it, either
        run.due("dinner(1, 0, 0, 2, 3)", 2).lay("t23;s015;f106").due("many(2)", 0).due("land(0)", 3).due("land(1)", 2);
    }

    private static void notTaken() {
        String[] texts = {"", "t", "t1234567", "t12;f000;", "t12;g119;s118;f11", "t12;f000;s000;g000;f000;s000;g000;f000"};
        for (String text : texts) {
            Run run = Run.of(Checks.TEXT, "-100 less the FIRST FAULT changes nothing: " + text);
            run.does("act(1, 2)").does("reading(0, 0)").does("tell(1)").row(0, 0, Checks.codes(text));
            run.keeps("table(0, 0, 0, " + text.length() + ")", taken(text, 0));
        }
    }

    // ---- MIGHT, HELD, LAND

    private static void mightOfAThing() {
        int[][] mights = {{0, 1, 9}, {1, 2, 10}, {2, 4, 20}};
        int[] strengths = {0, 1, 9};
        for (int kind = 0; kind < 3; kind++) {
            for (int s = 0; s < 3; s++) {
                String text = "t11;" + "fsg".charAt(kind) + "10" + strengths[s];
                Run run = Run.of(text, "MIGHT: of a FORK STRENGTH; of a SALT 1 more; of a GRAVY twice what a SALT's is");
                run.due("ofThing(0, 4)", mights[kind][s]).due("might(1, 0)", mights[kind][s]).due("might(0, 0)", 0);
                run.due("act(0, 2)", TableWar.NONE).due("ofThing(0, 4)", 0).due("ofThing(0, 2)", TableWar.NONE);
                run.due("might(1, 0)", 0).due("holds(0)", TableWar.NONE).due("ofThing(0, 3)", strengths[s]);
                run.due("ofThing(0, 0)", kind).due("ofThing(0, 1)", 1);
            }
        }
    }

    private static void mightOfAHouse() {
        Run run = Run.of("t99;g019;g019;g019;g019;g019;g019", "MIGHT of a HOUSE in a CELL is that of all its THINGS there");
        run.due("might(0, 1)", 120).due("might(1, 1)", 0).due("might(0, 0)", 0).due("might(1, 0)", 0);
        run.does("act(5, 2)").due("might(0, 1)", 100).does("act(0, 0)").due("might(0, 1)", 80).due("might(0, 0)", 20);
        run = Run.of("t11;f001;f102;f004;f108", "its THINGS there alone");
        run.due("might(0, 0)", 5).due("might(1, 0)", 10);
    }

    private static void held() {
        Run run = Run.of("t111;f004;f105", "A CELL is HELD by the HOUSE of the greater MIGHT there; NONE: they are equal");
        run.due("holds(0)", 1).due("holds(1)", TableWar.NONE);
        run.does("arm(0, 5)").due("holds(0)", TableWar.NONE).does("arm(0, 6)").due("holds(0)", 0);
        run.does("act(0, 2)").due("holds(0)", 1).does("act(1, 2)").due("holds(0)", TableWar.NONE);
        Run.of("t11;f000", "MIGHT 0 against nobody is equal").due("holds(0)", TableWar.NONE);
        Run.of("t11;s000", "MIGHT 1 against nobody is greater").due("holds(0)", 0);
        Run.of("t11;f000;f000;f101", "MIGHT 1 against 0").due("holds(0)", 1);
        run = Run.of("t11;g019;g019;g019;g119;g119;g119", "the greatest MIGHTS").due("holds(1)", TableWar.NONE);
        run.does("arm(3, 8)").due("holds(1)", 0).does("arm(2, 7)").due("holds(1)", 1);
    }

    private static void landOfAHouse() {
        String all = "t999999;f001;f011;f021;f031;f041;f051";
        Run.of(all, "LAND: ACRES of all CELLS that it HOLDS").due("land(0)", 54).due("land(1)", 0);
        Run.of(all.replace("f0", "f1"), "LAND: of all").due("land(1)", 54).due("land(0)", 0);
        Run run = Run.of("t999;f001;f101", "LAND: of none that is HELD by NONE").due("land(0)", 0).due("land(1)", 0);
        run.does("act(0, 2)").due("land(0)", 0).due("land(1)", 9).does("act(1, 2)").due("land(1)", 0);
    }

    private static void stainFromAndTo() {
        Run run = Run.of("t090;s111", "ACRES of a CELL become v (0 .. 9): what they were");
        run.due("stain(1, 0)", 9).due("stain(1, 9)", 0).due("stain(1, 9)", 9).due("acres(1)", 9).due("land(1)", 9);
        run.due("stain(1, 0)", 9).due("land(1)", 0).due("acres(1)", 0);
        run.due("stain(0, 1)", 0).due("stain(2, 8)", 0).due("acres(0)", 1).due("acres(1)", 0).due("acres(2)", 8);
    }

    private static void armFromAndTo() {
        Run run = Run.of("t11;f009;g100", "STRENGTH of a THING becomes v (0 .. 9): what it was");
        run.due("arm(0, 0)", 9).due("arm(0, 9)", 0).due("arm(0, 9)", 9).due("ofThing(0, 3)", 9).due("ofThing(0, 4)", 9);
        run.due("arm(1, 9)", 0).due("ofThing(1, 4)", 20).due("arm(1, 0)", 9).due("ofThing(1, 4)", 2);
        run.does("act(0, 2)").due("arm(0, 0)", 9).due("ofThing(0, 4)", 0).due("arm(0, 5)", 0).due("ofThing(0, 4)", 0);
        run.due("serve()", 1).due("ofThing(0, 3)", 5).due("ofThing(0, 4)", 5).due("might(0, 0)", 5);
    }

    private static void theLastCall() {
        Run run = new Run("at most 512 calls").row(0, 0, Checks.codes("t45;g019"));
        run.due("table(0, 0, 0, 8)", 1);
        int trace = 0;
        for (int k = 10; k < Run.MOST_CALLS - 2; k++) {
            run.does("pass(0)");
            trace = 31 * trace + 5;
        }
        run.due("trace()", trace).due("land(0)", 5);
    }
}
