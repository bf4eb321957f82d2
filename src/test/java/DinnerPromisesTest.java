/** Promises 10 to 12: acts, serving, dinners. */
public final class DinnerPromisesTest {
    public static void main(String[] args) {
        promise10Act();
        promise11Serve();
        promise12Dinner();
        promise12FirstWrong();
        promise12Refusals();
        Checks.end();
    }

    private static void promise10Act() {
        TableWar war = Checks.laid(Checks.TEXT);
        Checks.due("act(0, 0) out of the table", war.act(0, 0), -3);
        Checks.due("act(0, 1)", war.act(0, 1), 1);
        Checks.due("act(0, 1) again", war.act(0, 1), 2);
        Checks.due("act(0, 1) out of the table", war.act(0, 1), -3);
        Checks.due("act(0, 0)", war.act(0, 0), 1);
        Checks.due("might(0, 1)", war.might(0, 1), 3);
        Checks.due("might(0, 0)", war.might(0, 0), 0);
        Checks.due("act(0, 2)", war.act(0, 2), TableWar.NONE);
        for (int act = 0; act < 3; act++) {
            Checks.due("act(0, " + act + ") of an eaten one", war.act(0, act), -3);
        }
        Checks.due("many(2)", war.many(2), 1);
        Checks.due("act(0, 3)", war.act(0, 3), -2);
        Checks.due("act(0, -1)", war.act(0, -1), -2);
        Checks.due("act(4, 3)", war.act(4, 3), -1);
        Checks.due("act(-1, 0)", war.act(-1, 0), -1);
    }

    private static void promise11Serve() {
        TableWar war = new TableWar();
        Checks.due("serve() without a table", war.serve(), -3);
        Checks.lay(war, Checks.TEXT);
        Checks.due("serve() of nothing", war.serve(), 0);
        war.act(2, 0);
        war.act(2, 2);
        war.act(3, 2);
        Checks.due("serve()", war.serve(), 2);
        Checks.due("where it was last", war.ofThing(2, 2), 1);
        Checks.due("where the other was", war.ofThing(3, 2), 2);
        Checks.due("many(2)", war.many(2), 0);
        Checks.due("serve() again", war.serve(), 0);
    }

    private static void promise12Dinner() {
        TableWar war = Checks.laid(Checks.TEXT);
        // the gravy goes to cell 1, the fork of house 1 is eaten
        int[] pairs = {2, 0, 3, 2};
        Checks.due("dinner, 0", Checks.dine(war, 0, pairs), 9);
        Checks.due("dinner, 1", Checks.dine(war, 1, pairs), TableWar.NONE);
        Checks.due("dinner, 2", Checks.dine(war, 2, pairs), 0);
        Checks.due("dinner, 3", Checks.dine(war, 3, pairs), 1);
        Checks.due("dinner, 10", Checks.dine(war, 10, pairs), 0);
        Checks.due("dinner, 12", Checks.dine(war, 12, pairs), 1);
        Checks.due("dinner, 13", Checks.dine(war, 13, pairs), TableWar.NONE);
        Checks.due("dinner, 14", Checks.dine(war, 14, pairs), TableWar.NONE);
        Checks.due("dinner, 15", Checks.dine(war, 15, pairs), TableWar.NONE);
        Checks.due("dinner, 20", Checks.dine(war, 20, pairs), 0);
        Checks.due("dinner, 21", Checks.dine(war, 21, pairs), 0);
        Checks.due("dinner, 22", Checks.dine(war, 22, pairs), TableWar.NONE);
        Checks.due("dinner, 25", Checks.dine(war, 25, pairs), TableWar.NONE);
        Checks.due("land(0): nothing is changed", war.land(0), 7);
        Checks.due("many(2): nothing is changed", war.many(2), 0);
        Checks.due("ofThing(2, 2): nothing is changed", war.ofThing(2, 2), 2);
        Checks.due("no pairs, 2", Checks.dine(war, 2), 5);
        war.act(1, 2);
        Checks.due("eaten in all", Checks.dine(war, 3, 0, 2, 3, 2), 3);
        Checks.due("a part of a row", partOfRow(war), 1);
    }

    private static int partOfRow(TableWar war) {
        Checks.write(war, 0, 0, 99, 0, 1, 99);
        return war.dinner(0, 0, 1, 1, 10);
    }

    private static void promise12FirstWrong() {
        TableWar war = Checks.laid(Checks.TEXT);
        Checks.due("house 1 begins", Checks.dine(war, 1, 1, 2), 0);
        Checks.due("house 0 twice", Checks.dine(war, 1, 0, 1, 2, 0), 1);
        Checks.due("no lesser cell", Checks.dine(war, 1, 2, 0, 1, 0, 0, 0), 2);
        Checks.due("no greater cell", Checks.dine(war, 1, 0, 1, 3, 1), 1);
        Checks.due("eaten in it", Checks.dine(war, 1, 0, 2, 1, 1, 0, 2), 2);
        Checks.due("wrong, 0", Checks.dine(war, 0, 0, 1, 2, 0), -101);
        Checks.due("wrong, 10", Checks.dine(war, 10, 0, 1, 2, 0), -101);
        Checks.due("wrong, 20", Checks.dine(war, 20, 1, 1), -100);
        war.act(0, 2);
        Checks.due("eaten ahead of it", Checks.dine(war, 1, 0, 1), 0);
        Checks.due("land(0): nothing is changed", war.land(0), 3);
    }

    private static void promise12Refusals() {
        TableWar war = new TableWar();
        int most = Integer.MAX_VALUE;
        Checks.dueFault(war, "dinner, no sheet", war.dinner(4, 3, 0, 0, 0), -1, 0);
        Checks.dueFault(war, "dinner, lane", war.dinner(0, 3, 0, 0, 0), -2, 0);
        Checks.dueFault(war, "dinner, n -1", war.dinner(0, 0, 0, -1, 0), -2, 0);
        Checks.dueFault(war, "dinner, n 21", war.dinner(0, 0, 0, 21, 0), -2, 0);
        Checks.dueFault(war, "dinner, n most", war.dinner(0, 0, 0, most, 0), -2, 0);
        for (int what : new int[] {-1, 4, 9, 16, 19, 26, most}) {
            Checks.dueFault(war, "dinner, what " + what, war.dinner(0, 0, 0, 0, what), -2, 0);
        }
        Checks.dueFault(war, "dinner, no table", war.dinner(0, 0, -1, 0, 0), -3, 0);
        Checks.lay(war, Checks.TEXT);
        Checks.dueFault(war, "dinner, nothing", war.dinner(0, 0, -1, 0, 0), Checks.NULL, 1);
        Checks.write(war, 0, 0, 0, 1, 1, 2);
        Checks.dueFault(war, "dinner, cast", war.dinner(0, 1, -1, 0, 0), Checks.CAST, 2);
        Checks.dueFault(war, "dinner, i -1", war.dinner(0, 0, -1, 0, 0), Checks.INDEX, 3);
        Checks.dueFault(war, "dinner, i 5", war.dinner(0, 0, 5, 0, 0), Checks.INDEX, 3);
        Checks.dueFault(war, "dinner, i 4", war.dinner(0, 0, 4, 0, 3), 0, 0);
        Checks.dueFault(war, "dinner, 3 pairs", war.dinner(0, 0, 0, 3, 0), Checks.INDEX, 3);
        Checks.dueFault(war, "dinner, 1 and 2 pairs", war.dinner(0, 0, 1, 2, 0), Checks.INDEX, 3);
        Checks.due("a cell that is no thing", Checks.dine(war, 0, 4, 3), -1);
        Checks.due("a cell below 0", Checks.dine(war, 0, -1, 0), -1);
        Checks.due("no act", Checks.dine(war, 0, 0, 3, 4, 0), -2);
        Checks.due("act below 0", Checks.dine(war, 1, 0, -1), -2);
        Checks.due("ahead of any act: no thing", Checks.dine(war, 1, 1, 0, 0, 0, 4, 0), -1);
        Checks.due("ahead of any act: no act", Checks.dine(war, 1, 1, 0, 0, 3), -2);
        Checks.due("fault() of such", war.fault(), 0);
        int[] twenty = new int[40];
        for (int p = 0; p < 20; p++) {
            twenty[2 * p] = p % 2;
            twenty[2 * p + 1] = p / 2 % 2 == 0 ? 1 : 0;
        }
        Checks.due("twenty pairs", Checks.dine(war, 1, twenty), TableWar.NONE);
    }
}
