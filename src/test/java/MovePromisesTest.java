/** Promises 13 to 15: good, safe, need. */
public final class MovePromisesTest {
    public static void main(String[] args) {
        promise13Good();
        promise14Safe();
        promise15Need();
        refusals();
        Checks.end();
    }

    private static void dueGood(TableWar war, int h, int x, int act, int lead) {
        Checks.due("good(" + h + ", 0)", war.good(h, 0), x);
        Checks.due("good(" + h + ", 1)", war.good(h, 1), act);
        Checks.due("good(" + h + ", 2)", war.good(h, 2), lead);
    }

    private static void dueSafe(TableWar war, int h, int x, int act, int lead) {
        Checks.due("safe(" + h + ", 0)", war.safe(h, 0), x);
        Checks.due("safe(" + h + ", 1)", war.safe(h, 1), act);
        Checks.due("safe(" + h + ", 2)", war.safe(h, 2), lead);
    }

    private static void promise13Good() {
        TableWar war = Checks.laid(Checks.TEXT);
        // the gravy takes cell 1, and house 1 is left with cell 2: 9 against 3
        dueGood(war, 0, 2, 0, 106);
        // the salt in cell 2: 5 against 4, 5 acres lost, 3 won: 4 against 3
        dueGood(war, 1, 1, 1, 99);
        Checks.due("land(0): nothing is changed", war.land(0), 7);
        war.act(1, 2);
        war.act(3, 2);
        dueGood(war, 1, TableWar.NONE, TableWar.NONE, TableWar.NONE);
        // alone: all acts that keep as much are alike, the least thing's least act is taken
        war = Checks.laid("t000;f011;f011");
        dueGood(war, 0, 0, 0, 100);
        war = Checks.laid("t000;f001;f011");
        dueGood(war, 0, 0, 1, 100);
        // only one thing, that had best stay: any act loses
        war = Checks.laid("t90;f001");
        dueGood(war, 0, 0, 1, 100);
        dueGood(war, 1, TableWar.NONE, TableWar.NONE, TableWar.NONE);
        // to be eaten may be all that is left that is good
        war = Checks.laid("t09;g009;f010;f111");
        dueGood(war, 0, 0, 1, 109);
        // no act of an eaten one
        war = Checks.laid("t09;f009;f005;f111");
        war.act(0, 2);
        dueGood(war, 0, 1, 1, 109);
    }

    private static void promise14Safe() {
        TableWar war = Checks.laid(Checks.TEXT);
        dueSafe(war, 0, 2, 0, 99);
        dueSafe(war, 1, 3, 0, 101);
        Checks.due("land(0): nothing is changed", war.land(0), 7);
        // to win cell 1 leaves cell 0 to house 1's reply; to waste an act makes house 1 leave cell 1
        war = Checks.laid("t951;f002;f020;f111");
        dueGood(war, 0, 0, 1, 105);
        dueSafe(war, 0, 1, 0, 108);
        // the other house has nothing that could reply
        war = Checks.laid("t19;f001;f111");
        war.act(1, 2);
        dueSafe(war, 0, 0, 1, 109);
        dueSafe(war, 1, TableWar.NONE, TableWar.NONE, TableWar.NONE);
        war = Checks.laid("t00;f000");
        dueSafe(war, 0, 0, 1, 100);
        dueSafe(war, 1, TableWar.NONE, TableWar.NONE, TableWar.NONE);
    }

    private static void promise15Need() {
        TableWar war = Checks.laid(Checks.TEXT);
        Checks.due("need(0, 0)", war.need(0, 0), 0);
        Checks.due("need(0, 1)", war.need(0, 1), 1);
        Checks.due("need(0, 2)", war.need(0, 2), 0);
        Checks.due("need(1, 0): both must go", war.need(1, 0), 3);
        Checks.due("need(1, 1)", war.need(1, 1), 0);
        Checks.due("need(1, 2)", war.need(1, 2), 1);
        war.act(3, 2);
        Checks.due("need(1, 0): the salt is only equal", war.need(1, 0), TableWar.NONE);
        Checks.due("need(1, 2)", war.need(1, 2), TableWar.NONE);
        war = Checks.laid("t000000;f005;g053;f011;f027");
        Checks.due("one far thing beats two near ones", war.need(0, 5), 0);
        Checks.due("an empty cell", war.need(0, 4), 1);
        Checks.due("nobody of house 1", war.need(1, 4), TableWar.NONE);
        war = Checks.laid("t000000;f105;g053;f011;f027");
        Checks.due("5 against: the 7, not the 1 or the gravy", war.need(0, 0), 2);
        war.arm(3, 4);
        Checks.due("5 against: the 4 and the 1 equal, so the gravy", war.need(0, 0), 5);
        war.arm(3, 5);
        Checks.due("5 against: the 5 and the 1", war.need(0, 0), 3);
        war.arm(0, 0);
        war.arm(2, 0);
        Checks.due("nothing against: MIGHT 0 does not hold", war.need(0, 0), 2);
    }

    private static void refusals() {
        TableWar war = new TableWar();
        Checks.due("good(2, 3)", war.good(2, 3), -1);
        Checks.due("good(0, 3)", war.good(0, 3), -2);
        Checks.due("good(0, 0)", war.good(0, 0), -3);
        Checks.due("safe(2, 3)", war.safe(2, 3), -1);
        Checks.due("safe(0, 3)", war.safe(0, 3), -2);
        Checks.due("safe(0, 0)", war.safe(0, 0), -3);
        Checks.due("need(0, 0)", war.need(0, 0), -1);
        Checks.lay(war, Checks.TEXT);
        Checks.due("good(-1, 0)", war.good(-1, 0), -1);
        Checks.due("good(0, -1)", war.good(0, -1), -2);
        Checks.due("safe(-1, 0)", war.safe(-1, 0), -1);
        Checks.due("safe(1, -1)", war.safe(1, -1), -2);
        Checks.due("need(2, 0)", war.need(2, 0), -1);
        Checks.due("need(-1, 0)", war.need(-1, 0), -1);
        Checks.due("need(0, 3)", war.need(0, 3), -1);
        Checks.due("need(0, -1)", war.need(0, -1), -1);
    }
}
