/**
 * REFUSALS and FAULTS of every call: the least and the greatest number that is let through, the next
 * one on either side, what comes first where several are due, and that nothing is changed by them.
 */
public final class RefusalEdgesTest {
    private static final int UNKNOWN = -1, OUTSIDE = -2, STATE = -3, FULL = -4;
    private static final int NULL = Checks.NULL, CAST = Checks.CAST, INDEX = Checks.INDEX, SIZE = Checks.SIZE;
    private static final String[] WHATS_BELOW_3 = {"-1", "3", "LEAST", "MOST"};

    private static final String[] OF_A_THING = {
        "ofThing(#, 0)", "arm(#, 0)", "act(#, 2)", "strengths(#)", "kinds(#)", "spots(#)", "tell(#)",
        "pass(#)", "as(#, 0)"
    };
    private static final String[] OF_A_CELL = {
        "acres(#)", "stain(#, 0)", "might(0, #)", "holds(#)", "need(0, #)", "reading(#, 0)"
    };
    private static final String[] OF_A_HOUSE = {
        "might(#, 0)", "land(#)", "good(#, 0)", "safe(#, 0)", "need(#, 0)", "reading(0, #)"
    };
    private static final String[] OF_A_SHEET = {
        "table(#, 0, 0, 0)", "dinner(#, 0, 0, 0, 0)", "sheet(#, 0, 0)", "lose(#)", "put(#, 0, 0)",
        "copy(#, 0, 0, 0, 0)", "copy(0, 0, #, 0, 0)"
    };

    public static void main(String[] args) {
        unknownThings();
        unknownCells();
        unknownHouses();
        unknownSheets();
        withoutATable();
        ofThing();
        stainAndArm();
        mightHoldsLand();
        act();
        serve();
        goodAndSafe();
        need();
        reading();
        back();
        odds();
        sheet();
        put();
        cell();
        copy();
        as();
        many();
        table();
        dinner();
        dinnerPairs();
        Checks.end();
    }

    // ---- scenes

    /**
     * Sheet 0 has four bytes, sheet 1 three shorts, sheets 2 and 3 nothing; TRACE is 35; with a table:
     * thing 3 is eaten, two READINGS.
     */
    private static Run rows(Run run) {
        return run.row(0, 0, 0, 1, 1, 2).row(1, 1, 0, 2, 300);
    }

    private static Run bare(String sentence) {
        return rows(new Run(sentence));
    }

    private static Run scene(String sentence) {
        Run run = rows(Run.of(Checks.TEXT, sentence));
        run.does("tell(0)").does("pass(0)").does("act(3, 0)").does("act(3, 2)");
        return run.does("reading(0, 0)").does("reading(2, 0)");
    }

    private static void each(Run run, long want, String... calls) {
        for (String call : calls) {
            run.keeps(call, want);
        }
    }

    private static String with(String call, Object number) {
        return call.replace("#", number.toString());
    }

    // ---- UNKNOWN: there is no such THING, CELL, HOUSE, SHEET

    private static String textOf(int cells, int things) {
        return "t" + "1".repeat(cells) + ";g011".repeat(things);
    }

    private static void unknownThings() {
        for (int things = 1; things <= 6; things++) {
            for (String call : OF_A_THING) {
                Run run = Run.of(textOf(2, things), "UNKNOWN: no such THING, of " + things);
                each(run, UNKNOWN, with(call, -1), with(call, things), with(call, "LEAST"), with(call, "MOST"));
                run.isnt(with(call, 0), UNKNOWN).isnt(with(call, things - 1), UNKNOWN);
            }
        }
    }

    private static void unknownCells() {
        for (int cells = 2; cells <= 6; cells++) {
            for (String call : OF_A_CELL) {
                Run run = Run.of(textOf(cells, 1), "UNKNOWN: no such CELL, of " + cells);
                each(run, UNKNOWN, with(call, -1), with(call, cells), with(call, "LEAST"), with(call, "MOST"));
                run.isnt(with(call, 0), UNKNOWN).isnt(with(call, cells - 1), UNKNOWN);
            }
        }
    }

    private static void unknownHouses() {
        for (String call : OF_A_HOUSE) {
            Run run = scene("There are HOUSES 0, 1");
            each(run, UNKNOWN, with(call, -1), with(call, 2), with(call, "LEAST"), with(call, "MOST"));
            run.isnt(with(call, 0), UNKNOWN).isnt(with(call, 1), UNKNOWN);
            // NONE is a HOUSE of a READING alone
            if (call.startsWith("reading")) {
                run.due(with(call, "NONE"), 4);
                each(run, UNKNOWN, with(call, -8), with(call, -10));
            } else {
                run.keeps(with(call, "NONE"), UNKNOWN);
            }
        }
        Run odds = scene("There are HOUSES 0, 1");
        for (String h : new String[] {"-1", "2", "LEAST", "MOST", "NONE"}) {
            odds.lost("odds(" + h + ", 0)", 0);
        }
        odds.isnt("odds(0, 0)", TableWar.LOST).isnt("odds(1, 0)", TableWar.LOST);
    }

    private static void unknownSheets() {
        for (String call : OF_A_SHEET) {
            Run run = scene("SHEETS 0 .. 3");
            each(run, UNKNOWN, with(call, -1), with(call, 4), with(call, "LEAST"), with(call, "MOST"));
            for (int k = 0; k < 4; k++) {
                run.isnt(with(call, k), UNKNOWN);
            }
        }
        Run cell = scene("SHEETS 0 .. 3");
        for (String k : new String[] {"-1", "4", "LEAST", "MOST"}) {
            cell.lost("cell(" + k + ", 0, 0)", 0);
        }
        cell.does("sheet(3, 0, 1)").due("cell(0, 0, 0)", 0).due("cell(3, 0, 0)", 0);
    }

    // ---- a call's REFUSALS, in the order in which its line tells them

    private static void withoutATable() {
        Run run = bare("No TABLE (no CELLS, THINGS)");
        for (String call : OF_A_THING) {
            each(run, UNKNOWN, with(call, 0), with(call, -1), with(call, 5));
        }
        for (String call : OF_A_CELL) {
            each(run, UNKNOWN, with(call, 0), with(call, -1), with(call, 5));
        }
        run = bare("STATE: there is no TABLE");
        each(run, STATE, "land(0)", "land(1)", "serve()", "good(0, 0)", "good(1, 2)", "safe(0, 2)", "safe(1, 0)");
        each(run, STATE, "dinner(0, 0, 0, 0, 0)", "dinner(0, 1, -1, 20, 25)", "dinner(2, 0, -1, 1, 0)",
            "dinner(0, 0, 0, 2, 1)");
        run.lost("odds(0, 0)", 0).lost("odds(1, 1)", 0);
        each(run, 0, "many(0)", "many(1)", "many(2)", "many(3)", "back(0)");
        each(run, OUTSIDE, "back(1)", "back(-1)", "many(4)", "many(-1)");
    }

    private static void ofThing() {
        Run run = scene("Of a THING .. UNKNOWN; OUTSIDE");
        each(run, UNKNOWN, "ofThing(-1, -1)", "ofThing(4, 5)", "ofThing(MOST, LEAST)");
        each(run, OUTSIDE, "ofThing(0, -1)", "ofThing(0, 5)", "ofThing(3, 5)", "ofThing(0, LEAST)", "ofThing(0, MOST)");
        run.keeps("ofThing(1, 0)", 1).keeps("ofThing(1, 4)", 3);
    }

    private static void stainAndArm() {
        Run run = scene("becomes v (0 .. 9) .. UNKNOWN; OUTSIDE");
        each(run, UNKNOWN, "stain(-1, -1)", "stain(3, 10)", "arm(-1, -1)", "arm(4, 10)");
        for (String v : new String[] {"-1", "10", "LEAST", "MOST"}) {
            each(run, OUTSIDE, "stain(0, " + v + ")", "stain(2, " + v + ")", "arm(0, " + v + ")", "arm(3, " + v + ")");
        }
        run.due("stain(0, 0)", 4).due("stain(0, 9)", 0).due("acres(0)", 9);
        run.due("arm(3, 0)", 2).due("arm(3, 9)", 0).due("ofThing(3, 3)", 9);
    }

    private static void mightHoldsLand() {
        Run run = scene("UNKNOWN: HOUSE, CELL");
        each(run, UNKNOWN, "might(-1, -1)", "might(2, 3)", "might(2, 0)", "might(0, 3)", "holds(3)", "land(2)");
        run.keeps("might(1, 2)", 0).keeps("holds(2)", 0).keeps("land(0)", 7).keeps("land(1)", 5);
        bare("UNKNOWN; STATE: there is no TABLE").keeps("land(2)", UNKNOWN).keeps("land(-1)", UNKNOWN);
    }

    private static void act() {
        Run run = scene("An ACT (0 .. 2) of a THING .. UNKNOWN; OUTSIDE; STATE");
        each(run, UNKNOWN, "act(-1, -1)", "act(4, 3)", "act(4, 0)");
        each(run, OUTSIDE, "act(0, -1)", "act(0, 3)", "act(0, LEAST)", "act(0, MOST)", "act(3, 3)", "act(3, -1)");
        each(run, STATE, "act(3, 0)", "act(3, 1)", "act(3, 2)", "act(0, 0)", "act(2, 1)");
        run.due("act(0, 1)", 1).due("act(2, 0)", 1).due("act(1, 2)", TableWar.NONE);
    }

    private static void serve() {
        Run run = scene("What is EATEN is served again").due("serve()", 1);
        run.keeps("serve()", 0);
        bare("serve: STATE: there is no TABLE").keeps("serve()", STATE);
    }

    private static void goodAndSafe() {
        for (String call : new String[] {"good(", "safe("}) {
            Run run = scene(call + "UNKNOWN; OUTSIDE; STATE");
            each(run, UNKNOWN, call + "-1, -1)", call + "2, 3)", call + "2, 0)");
            for (String what : WHATS_BELOW_3) {
                each(run, OUTSIDE, call + "0, " + what + ")", call + "1, " + what + ")");
            }
            Run bare = bare(call + "UNKNOWN; OUTSIDE; STATE");
            each(bare, UNKNOWN, call + "2, 3)", call + "-1, 0)");
            each(bare, OUTSIDE, call + "0, 3)", call + "1, -1)");
            each(bare, STATE, call + "0, 0)", call + "1, 2)");
        }
        scene("GOOD").keeps("good(0, 0)", 2).keeps("good(0, 1)", 0).keeps("good(0, 2)", 109);
        scene("SAFE").keeps("safe(0, 0)", 2).keeps("safe(0, 1)", 0).keeps("safe(0, 2)", 105);
    }

    private static void need() {
        Run run = scene("NEED .. UNKNOWN: HOUSE, CELL");
        each(run, UNKNOWN, "need(-1, -1)", "need(2, 3)", "need(0, 3)", "need(0, -1)", "need(2, 0)");
        run.keeps("need(0, 2)", 0).keeps("need(0, 1)", 1).keeps("need(1, 0)", TableWar.NONE);
    }

    private static void reading() {
        Run run = scene("A READING: its number .. UNKNOWN: CELL, HOUSE; FULL");
        each(run, UNKNOWN, "reading(-1, -1)", "reading(3, 2)", "reading(3, 0)", "reading(0, 2)", "reading(0, -1)");
        for (int k = 2; k < 8; k++) {
            run.due("reading(0, 0)", k);
        }
        each(run, FULL, "reading(0, 0)", "reading(2, NONE)");
        each(run, UNKNOWN, "reading(3, 0)", "reading(-1, NONE)", "reading(0, 2)", "reading(0, -1)");
    }

    private static void back() {
        Run run = scene("The last k READINGS (0 .. as many as there are)");
        each(run, OUTSIDE, "back(-1)", "back(3)", "back(LEAST)", "back(MOST)");
        run.keeps("back(0)", 2).due("back(2)", 0);
        each(run, OUTSIDE, "back(1)", "back(-1)");
        run.keeps("back(0)", 0);
    }

    private static void odds() {
        Run run = scene("ODDS .. LOST: UNKNOWN; OUTSIDE; STATE");
        run.lost("odds(0, -1)", 0).lost("odds(0, 2)", 0).lost("odds(1, LEAST)", 0).lost("odds(1, MOST)", 0);
        run.lost("odds(2, 2)", 0).lost("odds(-1, -1)", 0);
        // without the salt: fork or gravy, with it: both
        run.keeps("odds(0, 0)", 1).keeps("odds(0, 1)", 2).keeps("odds(1, 0)", 3).keeps("odds(1, 1)", 8);
        bare("ODDS .. LOST").lost("odds(2, 2)", 0).lost("odds(0, 2)", 0).lost("odds(0, 1)", 0);
    }

    private static void sheet() {
        Run run = scene("A SHEET gets a new row .. UNKNOWN; OUTSIDE: lane, n above 60; SIZE");
        each(run, UNKNOWN, "sheet(-1, 3, 61)", "sheet(4, 3, -1)", "sheet(4, 0, 61)", "sheet(4, 0, -1)");
        each(run, OUTSIDE, "sheet(0, -1, 1)", "sheet(0, 3, 1)", "sheet(0, LEAST, 1)", "sheet(0, MOST, 1)");
        each(run, OUTSIDE, "sheet(0, 3, -1)", "sheet(0, -1, LEAST)", "sheet(2, 3, -1)", "sheet(0, 3, 61)");
        each(run, OUTSIDE, "sheet(0, 0, 61)", "sheet(1, 1, 61)", "sheet(2, 2, 61)", "sheet(0, 0, MOST)");
        each(run, SIZE, "sheet(0, 0, -1)", "sheet(1, 1, -1)", "sheet(2, 2, -1)", "sheet(0, 0, LEAST)");
    }

    private static void put() {
        Run run = scene("Cell i of a SHEET becomes v .. UNKNOWN; NULL; INDEX");
        each(run, UNKNOWN, "put(-1, -1, 9)", "put(4, 4, 9)", "put(4, 0, 9)");
        each(run, NULL, "put(2, 0, 9)", "put(2, -1, 9)", "put(3, MOST, 9)");
        each(run, INDEX, "put(0, -1, 9)", "put(0, 4, 9)", "put(1, 3, 9)", "put(0, LEAST, 9)", "put(0, MOST, 9)");
        run.does("sheet(2, 0, 0)");
        each(run, INDEX, "put(2, 0, 9)", "put(2, -1, 9)", "put(2, 1, 9)");
    }

    private static void cell() {
        Run run = scene("LOST: UNKNOWN, OUTSIDE: lane; FAULTS CAST, NULL, INDEX");
        run.lost("cell(4, -1, 3)", 0).lost("cell(-1, 0, -1)", 0).lost("cell(4, 0, 0)", 0);
        run.lost("cell(0, -1, 3)", 0).lost("cell(0, 0, -1)", 0).lost("cell(2, -1, 3)", 0);
        run.lost("cell(0, 0, LEAST)", 0).lost("cell(0, 0, MOST)", 0);
        run.lost("cell(0, -1, 1)", 2).lost("cell(0, 0, 2)", 2).lost("cell(1, 3, 0)", 2).lost("cell(1, 0, 2)", 2);
        run.lost("cell(2, -1, 0)", 1).lost("cell(2, 0, 1)", 1).lost("cell(3, MOST, 2)", 1);
        run.lost("cell(0, -1, 0)", 3).lost("cell(0, 4, 0)", 3).lost("cell(1, 3, 1)", 3);
        run.lost("cell(0, LEAST, 0)", 3).lost("cell(0, MOST, 0)", 3);
        run.keeps("cell(0, 0, 0)", 0).keeps("cell(0, 3, 0)", 2).keeps("cell(1, 2, 1)", 300);
    }

    private static void copy() {
        Run run = scene("n cells of a SHEET .. UNKNOWN; FAULTS NULL, CAST, INDEX");
        each(run, UNKNOWN, "copy(4, -1, -1, -1, -1)", "copy(-1, 0, 2, 0, 0)", "copy(2, 0, 4, 0, 0)");
        each(run, UNKNOWN, "copy(0, 0, -1, 0, 0)", "copy(4, 0, 0, 0, 0)");
        each(run, NULL, "copy(2, -1, 0, -1, -1)", "copy(0, -1, 2, -1, -1)", "copy(2, 0, 3, 0, 0)", "copy(2, 0, 2, 0, 0)");
        each(run, CAST, "copy(0, -1, 1, -1, -1)", "copy(1, 0, 0, 0, 0)", "copy(0, 0, 1, 0, 1)", "copy(0, 9, 1, 9, 9)");
        run.row(2, 0, 7, 8);
        each(run, INDEX, "copy(0, -1, 2, 0, 1)", "copy(0, 0, 2, -1, 1)", "copy(0, 0, 2, 0, -1)");
        each(run, INDEX, "copy(0, -1, 2, 0, 0)", "copy(0, 0, 2, -1, 0)", "copy(0, 5, 2, 0, 0)", "copy(0, 0, 2, 3, 0)");
        each(run, INDEX, "copy(0, 3, 2, 0, 2)", "copy(0, 0, 2, 1, 2)", "copy(0, 0, 2, 0, 3)", "copy(2, 0, 0, 0, 3)");
        each(run, INDEX, "copy(0, 1, 2, 1, MOST)", "copy(0, MOST, 2, 0, 1)", "copy(0, 0, 2, MOST, 1)");
        each(run, INDEX, "copy(0, MOST, 2, MOST, MOST)", "copy(0, 0, 2, 0, LEAST)", "copy(0, LEAST, 2, 0, 1)");
        each(run, INDEX, "copy(0, 0, 2, LEAST, 1)", "copy(0, 4, 2, 2, -1)", "copy(0, 5, 2, 3, -1)");
        run.keeps("copy(0, 4, 2, 2, 0)", 0).keeps("copy(0, 0, 2, 0, 0)", 0).keeps("copy(0, 0, 0, 0, 4)", 4);
    }

    private static void as() {
        Run run = scene("A THING, taken as one of a kind .. UNKNOWN; OUTSIDE; CAST");
        each(run, UNKNOWN, "as(-1, -1)", "as(4, 3)", "as(4, 0)", "as(4, 2)");
        each(run, OUTSIDE, "as(0, -1)", "as(0, 3)", "as(2, 3)", "as(2, LEAST)", "as(0, MOST)");
        each(run, CAST, "as(0, 1)", "as(0, 2)", "as(1, 2)", "as(3, 1)", "as(3, 2)");
        each(run, 1, "as(0, 0)", "as(1, 0)", "as(1, 1)", "as(2, 0)", "as(2, 1)", "as(2, 2)", "as(3, 0)");
    }

    private static void many() {
        Run run = scene("How many .. OUTSIDE");
        each(run, OUTSIDE, "many(-1)", "many(4)", "many(LEAST)", "many(MOST)");
        run.keeps("many(0)", 4).keeps("many(1)", 3).keeps("many(2)", 1).keeps("many(3)", 2);
    }

    private static void table() {
        Run run = scene("A TABLE by a TEXT .. UNKNOWN; OUTSIDE: lane; CAST; NULL; SIZE; INDEX; -100 less it");
        each(run, UNKNOWN, "table(-1, -1, -1, -1)", "table(4, 3, -1, -1)", "table(4, 0, 0, 0)", "table(4, 0, -1, -1)");
        each(run, OUTSIDE, "table(0, 3, -1, -1)", "table(0, -1, -1, -1)", "table(2, 3, -1, -1)", "table(0, 3, 0, 1)");
        each(run, OUTSIDE, "table(0, LEAST, 0, 1)", "table(0, MOST, 0, 1)");
        each(run, CAST, "table(0, 1, -1, -1)", "table(0, 2, 0, 1)", "table(1, 0, 0, -1)", "table(1, 2, 4, 0)");
        for (int lane = 0; lane < 3; lane++) {
            each(run, NULL, "table(2, " + lane + ", -1, -1)", "table(3, " + lane + ", 0, 0)");
        }
        each(run, SIZE, "table(0, 0, -1, -1)", "table(0, 0, 0, -1)", "table(0, 0, 5, LEAST)", "table(1, 1, MOST, -1)");
        each(run, INDEX, "table(0, 0, -1, 0)", "table(0, 0, -1, 1)", "table(0, 0, 5, 0)", "table(0, 0, 4, 1)");
        each(run, INDEX, "table(0, 0, 0, 5)", "table(0, 0, 1, 4)", "table(0, 0, 1, MOST)", "table(0, 0, MOST, 1)");
        each(run, INDEX, "table(0, 0, MOST, MOST)", "table(0, 0, LEAST, 0)", "table(0, 0, LEAST, MOST)");
        each(run, -100, "table(0, 0, 0, 0)", "table(0, 0, 4, 0)", "table(0, 0, 0, 4)", "table(1, 1, 3, 0)");
        run.does("sheet(2, 2, 0)");
        run.keeps("table(2, 2, 0, 0)", -100).keeps("table(2, 2, 1, 0)", INDEX).keeps("table(2, 2, 0, 1)", INDEX);
    }

    private static void dinner() {
        Run run = scene("A DINNER .. UNKNOWN: SHEET; OUTSIDE: lane, n, what; STATE; CAST; NULL; INDEX");
        each(run, UNKNOWN, "dinner(-1, -1, -1, -1, -1)", "dinner(4, 3, -1, 21, 4)", "dinner(4, 0, 0, 0, 0)");
        each(run, OUTSIDE, "dinner(0, 3, -1, 1, 0)", "dinner(0, -1, 0, 0, 0)", "dinner(2, 3, 0, 0, 0)");
        each(run, OUTSIDE, "dinner(0, 0, 0, -1, 0)", "dinner(0, 0, 0, 21, 0)", "dinner(2, 0, -1, 21, 0)");
        each(run, OUTSIDE, "dinner(0, 0, 0, MOST, 0)", "dinner(0, 0, 0, LEAST, 0)", "dinner(0, 0, 0, 1073741824, 0)");
        for (String what : new String[] {"-1", "4", "9", "16", "19", "26", "LEAST", "MOST"}) {
            each(run, OUTSIDE, "dinner(0, 0, 0, 0, " + what + ")", "dinner(0, 1, -1, 0, " + what + ")");
        }
        each(run, CAST, "dinner(0, 1, -1, 20, 0)", "dinner(0, 2, 0, 0, 0)", "dinner(1, 0, 0, 1, 1)");
        for (int lane = 0; lane < 3; lane++) {
            each(run, NULL, "dinner(2, " + lane + ", -1, 20, 0)", "dinner(3, " + lane + ", 0, 0, 25)");
        }
        each(run, INDEX, "dinner(0, 0, -1, 0, 0)", "dinner(0, 0, 5, 0, 0)", "dinner(0, 0, -1, 1, 0)");
        each(run, INDEX, "dinner(0, 0, 3, 1, 0)", "dinner(0, 0, 1, 2, 0)", "dinner(0, 0, 0, 3, 0)", "dinner(0, 0, 4, 1, 0)");
        each(run, INDEX, "dinner(0, 0, MOST, 1, 0)", "dinner(0, 0, MOST, 20, 0)", "dinner(0, 0, LEAST, 0, 0)");
        // INDEX of a pair behind the row ahead of UNKNOWN of a pair in it: 300 is no THING
        each(run, INDEX, "dinner(1, 1, 2, 1, 0)", "dinner(1, 1, 1, 2, 0)");
        run.keeps("dinner(0, 0, 4, 0, 0)", 7).keeps("dinner(0, 0, 0, 2, 1)", TableWar.NONE);
        Run bare = bare("A DINNER .. UNKNOWN; OUTSIDE; STATE");
        each(bare, UNKNOWN, "dinner(4, 3, 0, 0, 0)");
        each(bare, OUTSIDE, "dinner(0, 3, 0, 0, 0)", "dinner(0, 0, 0, 21, 0)", "dinner(0, 0, 0, 0, 4)");
    }

    private static void dueOfPairs(long want, int... numbers) {
        Run run = Run.of(Checks.TEXT, "then, of all pairs, one by one, ahead of any ACT").row(0, 2, numbers);
        for (int what : new int[] {0, 1, 2, 3, 10, 15, 20, 25}) {
            run.keeps("dinner(0, 2, 0, " + numbers.length / 2 + ", " + what + ")", want);
        }
    }

    private static void dinnerPairs() {
        int most = Integer.MAX_VALUE;
        int least = Integer.MIN_VALUE;
        for (int x : new int[] {-1, 4, 5, 6, least, most}) {
            dueOfPairs(UNKNOWN, x, 0);
            dueOfPairs(UNKNOWN, x, 3);
            dueOfPairs(UNKNOWN, 0, 1, x, 0);
        }
        for (int act : new int[] {-1, 3, least, most}) {
            dueOfPairs(OUTSIDE, 0, act);
            dueOfPairs(OUTSIDE, 0, 1, 1, act);
        }
        // one by one: of two pairs that are not so the first one's REFUSAL
        dueOfPairs(OUTSIDE, 0, 3, 4, 0);
        dueOfPairs(UNKNOWN, 4, 0, 0, 3);
        dueOfPairs(UNKNOWN, 4, 3, 0, 3);
        // ahead of any ACT: of a FIRST WRONG ahead of them nothing is told
        dueOfPairs(UNKNOWN, 1, 0, 4, 0);
        dueOfPairs(OUTSIDE, 0, 0, 1, 3);
        dueOfPairs(UNKNOWN, 0, 2, 1, 2, 0, 2, -1, 0);
    }
}
