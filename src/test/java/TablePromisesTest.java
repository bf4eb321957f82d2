/** Promises 1 to 9: a new object, and the table. */
public final class TablePromisesTest {
    public static void main(String[] args) {
        promise1NewObject();
        promise2Table();
        promise2Refusals();
        promise2FirstFaults();
        promise2MakesAllAnew();
        promise3OfThing();
        promise4Acres();
        promise5Stain();
        promise6Arm();
        promise7Might();
        promise8Holds();
        promise9Land();
        Checks.end();
    }

    private static void promise1NewObject() {
        TableWar war = new TableWar();
        Checks.due("new fault()", war.fault(), 0);
        Checks.due("new trace()", war.trace(), 0);
        for (int what = 0; what < 4; what++) {
            Checks.due("new many(" + what + ")", war.many(what), 0);
        }
        Checks.due("new acres(0)", war.acres(0), -1);
        Checks.due("new ofThing(0, 0)", war.ofThing(0, 0), -1);
        Checks.due("new land(0)", war.land(0), -3);
        Checks.due("new back(0)", war.back(0), 0);
        Checks.due("new odds(0, 0)", war.odds(0, 0), TableWar.LOST);
        for (int k = 0; k < 4; k++) {
            Checks.due("new lose(" + k + ")", war.lose(k), 0);
            Checks.due("new put(" + k + ", 0, 0)", war.put(k, 0, 0), Checks.NULL);
        }
    }

    private static void promise2Table() {
        TableWar war = new TableWar();
        Checks.due("table of " + Checks.TEXT, Checks.lay(war, Checks.TEXT), 4);
        Checks.due("many(0)", war.many(0), 4);
        Checks.due("many(1)", war.many(1), 3);
        Checks.due("least text", Checks.lay(war, "t00;f000"), 1);
        String most = "t123456;f050;s151;g052;f153;s054;g159";
        Checks.due("most text", Checks.lay(war, most), 6);
        Checks.due("many(1) of six", war.many(1), 6);
        Checks.due("acres(5)", war.acres(5), 6);
        Checks.due("ofThing(5, 3)", war.ofThing(5, 3), 9);
        for (int lane = 0; lane < 3; lane++) {
            Checks.write(war, lane, lane, Checks.codes("xyt907;s121zz"));
            Checks.dueFault(war, "a part as lane " + lane, war.table(lane, lane, 2, 9), 1, 0);
            Checks.due("acres(0) of the part", war.acres(0), 9);
            Checks.due("ofThing(0, 2) of the part", war.ofThing(0, 2), 2);
        }
        war = new TableWar();
        Checks.write(war, 0, 0, Checks.codes("t00;f00" + (char) ('5' + 256)));
        Checks.due("codes cut to bytes", war.table(0, 0, 0, 8), 1);
    }

    private static void promise2Refusals() {
        TableWar war = new TableWar();
        Checks.write(war, 1, 1, Checks.codes(Checks.TEXT));
        Checks.dueFault(war, "table(-1, ..)", war.table(-1, 9, -1, -1), -1, 0);
        Checks.dueFault(war, "table(4, ..)", war.table(4, 9, -1, -1), -1, 0);
        Checks.dueFault(war, "table(1, 3, ..)", war.table(1, 3, -1, -1), -2, 0);
        Checks.dueFault(war, "table(1, -1, ..)", war.table(1, -1, -1, -1), -2, 0);
        Checks.dueFault(war, "table(1, 0, ..)", war.table(1, 0, -1, -1), Checks.CAST, 2);
        Checks.dueFault(war, "table(1, 2, ..)", war.table(1, 2, 0, 24), Checks.CAST, 2);
        Checks.dueFault(war, "table(0, 0, ..)", war.table(0, 0, -1, -1), Checks.NULL, 1);
        Checks.dueFault(war, "table(1, 1, -1, -1)", war.table(1, 1, -1, -1), Checks.SIZE, 4);
        Checks.dueFault(war, "table(1, 1, -1, 0)", war.table(1, 1, -1, 0), Checks.INDEX, 3);
        Checks.dueFault(war, "table(1, 1, 25, 0)", war.table(1, 1, 25, 0), Checks.INDEX, 3);
        Checks.dueFault(war, "table(1, 1, 24, 0)", war.table(1, 1, 24, 0), -100, 0);
        Checks.dueFault(war, "table(1, 1, 0, 25)", war.table(1, 1, 0, 25), Checks.INDEX, 3);
        Checks.dueFault(war, "table(1, 1, 1, 24)", war.table(1, 1, 1, 24), Checks.INDEX, 3);
        int most = Integer.MAX_VALUE;
        Checks.dueFault(war, "table(1, 1, 1, most)", war.table(1, 1, 1, most), Checks.INDEX, 3);
        Checks.dueFault(war, "table(1, 1, most, 1)", war.table(1, 1, most, 1), Checks.INDEX, 3);
        Checks.due("many(0) behind refusals", war.many(0), 0);
    }

    private static void promise2FirstFaults() {
        TableWar war = Checks.laid(Checks.TEXT);
        firstFault(war, "", 0);
        firstFault(war, "T453;f003", 0);
        firstFault(war, "t", 1);
        firstFault(war, "t;f000", 1);
        firstFault(war, "t4", 2);
        firstFault(war, "t4;f000", 2);
        firstFault(war, "t4/;f000", 2);
        firstFault(war, "t4:;f000", 2);
        firstFault(war, "t45", 3);
        firstFault(war, "t45f000", 3);
        firstFault(war, "t123456", 7);
        firstFault(war, "t1234567;f000", 7);
        firstFault(war, "t45;", 4);
        firstFault(war, "t45;;", 4);
        firstFault(war, "t45;f", 5);
        firstFault(war, "t45;f200", 5);
        firstFault(war, "t45;f/00", 5);
        firstFault(war, "t45;f0", 6);
        firstFault(war, "t45;f020", 6);
        firstFault(war, "t456;f030", 7);
        firstFault(war, "t123456;f060", 10);
        firstFault(war, "t45;f01", 7);
        firstFault(war, "t45;f01:", 7);
        firstFault(war, "t45;f010;", 9);
        firstFault(war, "t45;f010f", 8);
        firstFault(war, "t45;f0107", 8);
        firstFault(war, "t45;f010;x000", 9);
        firstFault(war, "t45;f000;s000;g000;f000;s000;g000;", 33);
        firstFault(war, "t45;f000;s000;g000;f000;s000;g0000", 33);
        Checks.write(war, 1, 0, Checks.codes(Checks.TEXT));
        int[] endsOfThings = {9, 14, 19};
        for (int n = 0; n < Checks.TEXT.length(); n++) {
            if (n != endsOfThings[0] && n != endsOfThings[1] && n != endsOfThings[2]) {
                Checks.due("the row goes on, the text ends at " + n, war.table(1, 0, 0, n), -100 - n);
            }
        }
        Checks.due("many(1) behind faults: the old table", war.many(1), 3);
        Checks.due("ofThing(2, 4): the old table", war.ofThing(2, 4), 4);
        Checks.due("land(0): the old table", war.land(0), 7);
    }

    private static void firstFault(TableWar war, String text, int place) {
        Checks.due("table of '" + text + "'", Checks.lay(war, text), -100 - place);
        Checks.due("fault() behind '" + text + "'", war.fault(), 0);
    }

    private static void promise2MakesAllAnew() {
        TableWar war = Checks.laid(Checks.TEXT);
        war.act(1, 2);
        war.reading(0, 0);
        war.tell(0);
        war.stain(0, 9);
        Checks.write(war, 0, 0, 7);
        Checks.lay(war, "t45;x");
        Checks.due("many(2) behind a text that is not taken", war.many(2), 1);
        Checks.due("many(3) behind a text that is not taken", war.many(3), 1);
        Checks.lay(war, Checks.TEXT);
        Checks.due("many(2) anew", war.many(2), 0);
        Checks.due("many(3) anew", war.many(3), 0);
        Checks.due("acres(0) anew", war.acres(0), 4);
        Checks.due("trace() stays", war.trace(), 1);
        Checks.due("cell(0, 0, 0) stays", war.cell(0, 0, 0), 7);
        Checks.due("a dinner at which one is eaten", Checks.dine(war, 3, 0, 2), 1);
        Checks.lay(war, Checks.TEXT);
        Checks.due("many(2) behind a dinner and anew", war.many(2), 0);
    }

    private static void promise3OfThing() {
        TableWar war = Checks.laid(Checks.TEXT);
        int[][] facts = {{0, 0, 0, 3, 3}, {1, 1, 1, 2, 3}, {2, 0, 2, 1, 4}, {0, 1, 2, 2, 2}};
        dueFacts(war, facts);
        war.act(2, 2);
        facts[2][2] = TableWar.NONE;
        facts[2][4] = 0;
        dueFacts(war, facts);
        Checks.due("ofThing(-1, 9)", war.ofThing(-1, 9), -1);
        Checks.due("ofThing(4, 0)", war.ofThing(4, 0), -1);
        Checks.due("ofThing(0, 5)", war.ofThing(0, 5), -2);
        Checks.due("ofThing(0, -1)", war.ofThing(0, -1), -2);
    }

    private static void dueFacts(TableWar war, int[][] facts) {
        for (int x = 0; x < facts.length; x++) {
            for (int what = 0; what < facts[x].length; what++) {
                Checks.due("ofThing(" + x + ", " + what + ")", war.ofThing(x, what), facts[x][what]);
            }
        }
    }

    private static void promise4Acres() {
        TableWar war = Checks.laid(Checks.TEXT);
        Checks.due("acres(0)", war.acres(0), 4);
        Checks.due("acres(1)", war.acres(1), 5);
        Checks.due("acres(2)", war.acres(2), 3);
        Checks.due("acres(3)", war.acres(3), -1);
        Checks.due("acres(-1)", war.acres(-1), -1);
    }

    private static void promise5Stain() {
        TableWar war = Checks.laid(Checks.TEXT);
        Checks.due("stain(1, 9)", war.stain(1, 9), 5);
        Checks.due("stain(1, 0)", war.stain(1, 0), 9);
        Checks.due("stain(1, 10)", war.stain(1, 10), -2);
        Checks.due("stain(1, -1)", war.stain(1, -1), -2);
        Checks.due("stain(3, 10)", war.stain(3, 10), -1);
        Checks.due("stain(-1, 0)", war.stain(-1, 0), -1);
        Checks.due("acres(1)", war.acres(1), 0);
        Checks.due("land(1)", war.land(1), 0);
        Checks.due("acres(0)", war.acres(0), 4);
    }

    private static void promise6Arm() {
        TableWar war = Checks.laid(Checks.TEXT);
        Checks.due("arm(2, 9)", war.arm(2, 9), 1);
        Checks.due("MIGHT of the gravy", war.ofThing(2, 4), 20);
        Checks.due("arm(2, 0)", war.arm(2, 0), 9);
        Checks.due("holds(2), alike", war.holds(2), TableWar.NONE);
        Checks.due("arm(2, 10)", war.arm(2, 10), -2);
        Checks.due("arm(2, -1)", war.arm(2, -1), -2);
        Checks.due("arm(4, 10)", war.arm(4, 10), -1);
        Checks.due("arm(-1, 0)", war.arm(-1, 0), -1);
        Checks.due("STRENGTH", war.ofThing(2, 3), 0);
        war.act(2, 2);
        Checks.due("arm(2, 7) of an eaten one", war.arm(2, 7), 0);
        Checks.due("STRENGTH of an eaten one", war.ofThing(2, 3), 7);
    }

    private static void promise7Might() {
        TableWar war = Checks.laid("t11;f003;s002;g001;f113;s012");
        Checks.due("might(0, 0): 3, 3 and 4", war.might(0, 0), 10);
        Checks.due("might(1, 0)", war.might(1, 0), 0);
        Checks.due("might(0, 1)", war.might(0, 1), 3);
        Checks.due("might(1, 1)", war.might(1, 1), 3);
        war.act(2, 2);
        Checks.due("might(0, 0), the gravy eaten", war.might(0, 0), 6);
        Checks.due("might(2, 0)", war.might(2, 0), -1);
        Checks.due("might(-1, 0)", war.might(-1, 0), -1);
        Checks.due("might(0, 2)", war.might(0, 2), -1);
        Checks.due("might(0, -1)", war.might(0, -1), -1);
    }

    private static void promise8Holds() {
        TableWar war = Checks.laid("t1111;f003;s112;g021;f123;s122");
        Checks.due("holds(0)", war.holds(0), 0);
        Checks.due("holds(1)", war.holds(1), 1);
        Checks.due("holds(2): 4 against 6", war.holds(2), 1);
        Checks.due("holds(3): nobody there", war.holds(3), TableWar.NONE);
        war.act(4, 2);
        Checks.due("holds(2): 4 against 3", war.holds(2), 0);
        Checks.due("holds(4)", war.holds(4), -1);
        Checks.due("holds(-1)", war.holds(-1), -1);
    }

    private static void promise9Land() {
        TableWar war = new TableWar();
        Checks.due("land(0) without a table", war.land(0), -3);
        Checks.due("land(2) without a table", war.land(2), -1);
        war = Checks.laid(Checks.TEXT);
        Checks.due("land(0)", war.land(0), 7);
        Checks.due("land(1)", war.land(1), 5);
        Checks.due("land(2)", war.land(2), -1);
        Checks.due("land(-1)", war.land(-1), -1);
    }
}
