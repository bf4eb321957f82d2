/** Promises 22 to 32: sheets, bodies, faults, counts. */
public final class SheetPromisesTest {
    private static final int MOST = Integer.MAX_VALUE, LEAST = Integer.MIN_VALUE;

    public static void main(String[] args) {
        promise22Sheet();
        promise23Lose();
        promise24Put();
        promise25Cell();
        promise26Copy();
        promise26Refusals();
        promise27Tell();
        promise28Pass();
        promise29As();
        promise30Trace();
        promise31Fault();
        promise32Many();
        Checks.end();
    }

    private static void promise22Sheet() {
        TableWar war = new TableWar();
        Checks.dueFault(war, "sheet(0, 2, 60)", war.sheet(0, 2, 60), 1, 0);
        Checks.due("put(0, 59, 5)", war.put(0, 59, 5), 1);
        Checks.dueFault(war, "sheet(0, 2, 61)", war.sheet(0, 2, 61), -2, 0);
        Checks.dueFault(war, "sheet(0, 3, -1)", war.sheet(0, 3, -1), -2, 0);
        Checks.dueFault(war, "sheet(0, -1, 1)", war.sheet(0, -1, 1), -2, 0);
        Checks.dueFault(war, "sheet(0, 1, -1)", war.sheet(0, 1, -1), Checks.SIZE, 4);
        Checks.dueFault(war, "sheet(0, 1, LEAST)", war.sheet(0, 1, LEAST), Checks.SIZE, 4);
        Checks.dueFault(war, "sheet(4, 3, 61)", war.sheet(4, 3, 61), -1, 0);
        Checks.dueFault(war, "sheet(-1, 0, 1)", war.sheet(-1, 0, 1), -1, 0);
        Checks.due("cell(0, 59, 2): refusals change nothing", war.cell(0, 59, 2), 5);
        Checks.due("a new row", war.sheet(0, 2, 60), 1);
        Checks.due("cell(0, 59, 2) of a new row", war.cell(0, 59, 2), 0);
        Checks.due("a new row of none", war.sheet(0, 0, 0), 1);
        Checks.due("put(0, 0, 1) of none", war.put(0, 0, 1), Checks.INDEX);
        Checks.due("table of none", war.table(0, 0, 0, 0), -100);
    }

    private static void promise23Lose() {
        TableWar war = new TableWar();
        Checks.due("lose(1), nothing", war.lose(1), 0);
        war.sheet(1, 0, 0);
        Checks.due("lose(1), a row of none", war.lose(1), 1);
        Checks.due("lose(1) again", war.lose(1), 0);
        Checks.write(war, 1, 2, 4, 5);
        Checks.due("lose(1)", war.lose(1), 1);
        Checks.due("cell(1, 0, 2), lost", war.cell(1, 0, 2), TableWar.LOST);
        Checks.due("fault()", war.fault(), 1);
        Checks.due("lose(4)", war.lose(4), -1);
        Checks.due("lose(-1)", war.lose(-1), -1);
        Checks.due("fault(): lose names none", war.fault(), 1);
        war.sheet(1, 2, 2);
        Checks.due("cell(1, 0, 2) anew", war.cell(1, 0, 2), 0);
    }

    private static void promise24Put() {
        TableWar war = new TableWar();
        int[] numbers = {127, 128, -128, -129, 255, 256, 32767, 32768, -32769, 65535, MOST, LEAST};
        for (int v : numbers) {
            Checks.write(war, 0, 0, v);
            Checks.due(v + " as a byte", war.cell(0, 0, 0), (byte) v);
            Checks.write(war, 0, 1, v);
            Checks.due(v + " as a short", war.cell(0, 0, 1), (short) v);
            Checks.write(war, 0, 2, v);
            Checks.due(v + " as an int", war.cell(0, 0, 2), v);
        }
        Checks.dueFault(war, "put(0, 1, 0)", war.put(0, 1, 0), Checks.INDEX, 3);
        Checks.dueFault(war, "put(0, -1, 0)", war.put(0, -1, 0), Checks.INDEX, 3);
        Checks.dueFault(war, "put(0, MOST, 0)", war.put(0, MOST, 0), Checks.INDEX, 3);
        Checks.dueFault(war, "put(1, -1, 0)", war.put(1, -1, 0), Checks.NULL, 1);
        Checks.dueFault(war, "put(4, -1, 0)", war.put(4, -1, 0), -1, 0);
        Checks.dueFault(war, "put(-1, 0, 0)", war.put(-1, 0, 0), -1, 0);
        Checks.dueFault(war, "put(0, 0, 7)", war.put(0, 0, 7), 1, 0);
    }

    private static void promise25Cell() {
        TableWar war = new TableWar();
        long lost = TableWar.LOST;
        Checks.write(war, 0, 1, 7, -8, 9);
        Checks.dueFault(war, "cell(0, 1, 1)", war.cell(0, 1, 1), -8, 0);
        Checks.dueFault(war, "cell(0, 2, 1)", war.cell(0, 2, 1), 9, 0);
        Checks.dueFault(war, "cell(0, 3, 1)", war.cell(0, 3, 1), lost, 3);
        Checks.dueFault(war, "cell(0, -1, 1)", war.cell(0, -1, 1), lost, 3);
        Checks.dueFault(war, "cell(0, -1, 0)", war.cell(0, -1, 0), lost, 2);
        Checks.dueFault(war, "cell(0, -1, 3)", war.cell(0, -1, 3), lost, 0);
        Checks.dueFault(war, "cell(1, -1, 0)", war.cell(1, -1, 0), lost, 1);
        Checks.dueFault(war, "cell(0, 0, -1)", war.cell(0, 0, -1), lost, 0);
        Checks.dueFault(war, "cell(4, 0, 1)", war.cell(4, 0, 1), lost, 0);
        Checks.dueFault(war, "cell(-1, 0, 1)", war.cell(-1, 0, 1), lost, 0);
        Checks.write(war, 0, 2, LEAST);
        Checks.due("cell of the least int", war.cell(0, 0, 2), LEAST);
    }

    private static void dueRow(TableWar war, int k, int lane, int... numbers) {
        for (int i = 0; i < numbers.length; i++) {
            Checks.due("cell(" + k + ", " + i + ", " + lane + ")", war.cell(k, i, lane), numbers[i]);
        }
        Checks.due("behind the last cell", war.cell(k, numbers.length, lane), TableWar.LOST);
    }

    private static void promise26Copy() {
        TableWar war = new TableWar();
        for (int lane = 0; lane < 3; lane++) {
            Checks.write(war, 0, lane, 1, 2, 3, 4, 5);
            Checks.write(war, 1, lane, 9, 9, 9);
            Checks.dueFault(war, "copy to another", war.copy(0, 2, 1, 1, 2), 2, 0);
            dueRow(war, 1, lane, 9, 3, 4);
            Checks.due("copy up in itself", war.copy(0, 0, 0, 1, 4), 4);
            dueRow(war, 0, lane, 1, 1, 2, 3, 4);
            Checks.due("copy down in itself", war.copy(0, 1, 0, 0, 4), 4);
            dueRow(war, 0, lane, 1, 2, 3, 4, 4);
            Checks.due("copy of all", war.copy(1, 0, 0, 2, 3), 3);
            dueRow(war, 0, lane, 1, 2, 9, 3, 4);
            Checks.due("copy of none", war.copy(0, 5, 1, 3, 0), 0);
        }
    }

    private static void promise26Refusals() {
        TableWar war = new TableWar();
        Checks.dueFault(war, "copy, no first", war.copy(4, -1, 0, -1, -1), -1, 0);
        Checks.dueFault(war, "copy, no other", war.copy(0, -1, -1, -1, -1), -1, 0);
        Checks.write(war, 0, 0, 1, 2, 3);
        Checks.write(war, 1, 1, 1, 2, 3);
        Checks.dueFault(war, "copy, first nothing", war.copy(2, -1, 0, 0, 0), Checks.NULL, 1);
        Checks.dueFault(war, "copy, other nothing", war.copy(0, -1, 2, 0, 0), Checks.NULL, 1);
        Checks.dueFault(war, "copy, unlike", war.copy(0, -1, 1, 0, -1), Checks.CAST, 2);
        Checks.write(war, 1, 0, 7, 8);
        int[][] beyond = {{-1, 0, 1}, {0, -1, 1}, {0, 0, -1}, {4, 0, 0}, {0, 3, 0}, {0, 0, 3},
            {2, 0, 2}, {0, 1, 2}, {MOST, 0, 1}, {0, MOST, 1}, {1, 1, MOST}, {0, 0, LEAST}};
        for (int[] at : beyond) {
            int got = war.copy(0, at[0], 1, at[1], at[2]);
            Checks.dueFault(war, "copy " + at[0] + " " + at[1] + " " + at[2], got, Checks.INDEX, 3);
        }
        dueRow(war, 1, 0, 7, 8);
    }

    private static void promise27Tell() {
        TableWar war = Checks.laid(Checks.TEXT);
        Checks.due("tell of a fork", war.tell(0), 3);
        Checks.due("trace of a fork", war.trace(), 1);
        war = Checks.laid(Checks.TEXT);
        Checks.due("tell of a salt", war.tell(1), 102);
        Checks.due("trace of a salt", war.trace(), 2 * 31 + 1);
        war = Checks.laid(Checks.TEXT);
        Checks.due("tell of a gravy", war.tell(2), 102);
        Checks.due("trace of a gravy", war.trace(), ((3 * 31 + 2) * 31 + 1) * 31 + 1);
        war = Checks.laid(Checks.TEXT);
        war.arm(2, 9);
        war.act(2, 2);
        Checks.due("tell of an eaten gravy", war.tell(2), 118);
        Checks.due("tell(4)", war.tell(4), -1);
        Checks.due("tell(-1)", war.tell(-1), -1);
        Checks.due("trace: refusals leave none", war.trace(), ((3 * 31 + 2) * 31 + 1) * 31 + 1);
    }

    private static void promise28Pass() {
        TableWar war = Checks.laid(Checks.TEXT);
        Checks.due("pass of a fork", war.pass(3), 3);
        Checks.due("trace of it", war.trace(), 4);
        Checks.due("pass of a salt", war.pass(1), 1);
        Checks.due("trace of it", war.trace(), 4 * 31 + 4);
        war.act(2, 2);
        Checks.due("pass of an eaten gravy", war.pass(2), 60);
        Checks.due("trace of it", war.trace(), (4 * 31 + 4) * 31 + 5);
        Checks.due("pass(4)", war.pass(4), -1);
        Checks.due("pass(-1)", war.pass(-1), -1);
        Checks.due("trace: refusals leave none", war.trace(), (4 * 31 + 4) * 31 + 5);
    }

    private static void promise29As() {
        TableWar war = Checks.laid(Checks.TEXT);
        int[] kindOf = {0, 1, 2, 0};
        war.act(3, 2);
        for (int x = 0; x < 4; x++) {
            for (int kind = 0; kind < 3; kind++) {
                boolean is = kind <= kindOf[x];
                Checks.dueFault(war, "as(" + x + ", " + kind + ")", war.as(x, kind),
                    is ? 1 : Checks.CAST, is ? 0 : 2);
            }
        }
        Checks.dueFault(war, "as(0, 3)", war.as(0, 3), -2, 0);
        war.as(0, 2);
        Checks.dueFault(war, "as(0, -1)", war.as(0, -1), -2, 0);
        war.as(0, 2);
        Checks.dueFault(war, "as(4, 3)", war.as(4, 3), -1, 0);
        Checks.dueFault(war, "as(-1, 0)", war.as(-1, 0), -1, 0);
    }

    private static void promise30Trace() {
        TableWar war = Checks.laid(Checks.TEXT);
        int trace = 0;
        for (int k = 0; k < 20; k++) {
            war.pass(2);
            trace = 31 * trace + 5;
            Checks.due("trace() that wraps, " + k, war.trace(), trace);
        }
    }

    private static void promise31Fault() {
        TableWar war = new TableWar();
        Checks.due("fault() ahead of any", war.fault(), 0);
        war.put(0, 0, 0);
        Checks.due("NULL", war.fault(), 1);
        war.lose(9);
        war.land(0);
        war.act(0, 0);
        war.many(9);
        Checks.due("of the latest call that names one", war.fault(), 1);
        war.sheet(0, 9, 1);
        Checks.due("refused", war.fault(), 0);
        war.sheet(0, 0, -1);
        Checks.due("SIZE", war.fault(), 4);
        war.table(0, 0, 0, 0);
        Checks.due("NULL", war.fault(), 1);
        war.dinner(0, 0, 0, 0, 0);
        Checks.due("STATE", war.fault(), 0);
        war.sheet(0, 0, 3);
        war.cell(0, 3, 0);
        Checks.due("INDEX", war.fault(), 3);
        war.copy(0, 0, 0, 0, 3);
        Checks.due("none", war.fault(), 0);
    }

    private static void promise32Many() {
        TableWar war = Checks.laid("t123456;f003;s112");
        war.act(1, 2);
        war.reading(0, 0);
        war.reading(0, 0);
        war.reading(0, 0);
        Checks.due("many(0)", war.many(0), 2);
        Checks.due("many(1)", war.many(1), 6);
        Checks.due("many(2)", war.many(2), 1);
        Checks.due("many(3)", war.many(3), 3);
        Checks.due("many(4)", war.many(4), -2);
        Checks.due("many(-1)", war.many(-1), -2);
    }
}
