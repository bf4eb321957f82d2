/** Promises 16 to 21: readings, what follows from them, odds. */
public final class ReadingPromisesTest {
    private static final int ALL_STRENGTHS = 1023, ALL_KINDS = 7;

    public static void main(String[] args) {
        promise16Reading();
        promise17Back();
        promise18Strengths();
        promise19Kinds();
        promise20Spots();
        promises18To20OfEaten();
        promise21Odds();
        Checks.end();
    }

    private static void promise16Reading() {
        TableWar war = new TableWar();
        Checks.due("reading(0, 0) without a table", war.reading(0, 0), -1);
        Checks.lay(war, Checks.TEXT);
        Checks.due("reading(3, 0)", war.reading(3, 0), -1);
        Checks.due("reading(-1, 0)", war.reading(-1, 0), -1);
        Checks.due("reading(0, 2)", war.reading(0, 2), -1);
        Checks.due("reading(0, -1)", war.reading(0, -1), -1);
        Checks.due("many(3)", war.many(3), 0);
        for (int k = 0; k < 8; k++) {
            Checks.due("reading " + k, war.reading(k % 3, k % 2 == 0 ? k / 2 % 2 : TableWar.NONE), k);
        }
        Checks.due("a ninth", war.reading(0, 0), -4);
        Checks.due("a ninth of no cell", war.reading(3, 0), -1);
        Checks.due("a ninth of no house", war.reading(0, 2), -1);
        Checks.due("many(3)", war.many(3), 8);
    }

    private static void promise17Back() {
        TableWar war = Checks.laid(Checks.TEXT);
        Checks.due("back(1) of none", war.back(1), -2);
        Checks.due("back(0) of none", war.back(0), 0);
        war.reading(0, 0);
        war.reading(0, 1);
        war.reading(0, 1);
        Checks.due("strengths(0) that can't be", war.strengths(0), 0);
        Checks.due("back(-1)", war.back(-1), -2);
        Checks.due("back(4)", war.back(4), -2);
        Checks.due("back(0)", war.back(0), 3);
        Checks.due("back(2): the last ones", war.back(2), 1);
        Checks.due("strengths(0) by the first one", war.strengths(0), ALL_STRENGTHS - 1);
        Checks.due("the next reading", war.reading(1, 1), 1);
        Checks.due("back(2)", war.back(2), 0);
    }

    private static void promise18Strengths() {
        TableWar war = Checks.laid(Checks.TEXT);
        Checks.due("strengths(0), no readings", war.strengths(0), ALL_STRENGTHS);
        war.reading(0, 0);
        Checks.due("strengths(0), not 0", war.strengths(0), ALL_STRENGTHS - 1);
        Checks.due("strengths(1), of another cell", war.strengths(1), ALL_STRENGTHS);
        war.reading(2, 0);
        Checks.due("strengths(2): 2 and more than 2", war.strengths(2), ALL_STRENGTHS - 1);
        Checks.due("strengths(3): less than 4", war.strengths(3), 15);
        war.back(1);
        war.reading(2, TableWar.NONE);
        Checks.due("strengths(2): just 2", war.strengths(2), 1);
        Checks.due("strengths(3): just 4", war.strengths(3), 16);
        Checks.due("strengths(0): a reading elsewhere is not so", war.strengths(0), 0);
        Checks.due("strengths(4)", war.strengths(4), -1);
        Checks.due("strengths(-1)", war.strengths(-1), -1);
        Checks.due("ofThing(2, 3): nothing is changed", war.ofThing(2, 3), 1);
    }

    private static void promise19Kinds() {
        TableWar war = Checks.laid(Checks.TEXT);
        Checks.due("kinds(0), no readings", war.kinds(0), ALL_KINDS);
        war.reading(2, 0);
        Checks.due("kinds(2): a gravy alone", war.kinds(2), 4);
        Checks.due("kinds(3): no gravy of 6", war.kinds(3), 3);
        war.back(1);
        war.reading(2, TableWar.NONE);
        Checks.due("kinds(2): a salt alone", war.kinds(2), 2);
        Checks.due("kinds(1): none", war.kinds(1), 0);
        Checks.due("kinds(4)", war.kinds(4), -1);
        Checks.due("kinds(-1)", war.kinds(-1), -1);
        Checks.due("ofThing(2, 0): nothing is changed", war.ofThing(2, 0), 2);
    }

    private static void promise20Spots() {
        TableWar war = Checks.laid(Checks.TEXT);
        Checks.due("spots(0), no readings", war.spots(0), 7);
        war.reading(1, 1);
        Checks.due("spots(0): 3 against 3 in cell 1", war.spots(0), 5);
        Checks.due("spots(1)", war.spots(1), 2);
        Checks.due("spots(2)", war.spots(2), 5);
        Checks.due("spots(3)", war.spots(3), 7);
        war.reading(0, 0);
        Checks.due("spots(0)", war.spots(0), 1);
        war.reading(2, 1);
        Checks.due("spots(2): anywhere but 1 and 2", war.spots(2), 1);
        Checks.due("spots(0)", war.spots(0), 0);
        Checks.due("spots(4)", war.spots(4), -1);
        Checks.due("spots(-1)", war.spots(-1), -1);
        Checks.due("ofThing(2, 2): nothing is changed", war.ofThing(2, 2), 2);
    }

    private static void promises18To20OfEaten() {
        TableWar war = Checks.laid(Checks.TEXT);
        war.act(1, 2);
        war.reading(1, TableWar.NONE);
        Checks.due("strengths(1), eaten", war.strengths(1), ALL_STRENGTHS);
        Checks.due("kinds(1), eaten", war.kinds(1), ALL_KINDS);
        Checks.due("spots(1), eaten", war.spots(1), 7);
        war.reading(0, 1);
        Checks.due("strengths(1), eaten, not so", war.strengths(1), 0);
        Checks.due("kinds(1), eaten, not so", war.kinds(1), 0);
        Checks.due("spots(1), eaten, not so", war.spots(1), 0);
    }

    private static void dueOdds(TableWar war, int h, long upper, long lower) {
        Checks.due("odds(" + h + ", 0)", war.odds(h, 0), upper);
        Checks.due("odds(" + h + ", 1)", war.odds(h, 1), lower);
    }

    private static void promise21Odds() {
        TableWar war = new TableWar();
        Checks.due("odds without a table", war.odds(0, 0), TableWar.LOST);
        Checks.lay(war, Checks.TEXT);
        dueOdds(war, 0, 1, 2);
        dueOdds(war, 1, 7, 16);
        war.reading(0, 1);
        dueOdds(war, 0, 1, 2);
        Checks.due("odds(2, 0)", war.odds(2, 0), TableWar.LOST);
        Checks.due("odds(-1, 0)", war.odds(-1, 0), TableWar.LOST);
        Checks.due("odds(0, 2)", war.odds(0, 2), TableWar.LOST);
        Checks.due("odds(0, -1)", war.odds(0, -1), TableWar.LOST);
        Checks.due("land(0): nothing is changed", war.land(0), 7);
        Checks.due("many(2): nothing is changed", war.many(2), 0);
        // of four sets: the one with both is equal, one each for the houses
        war = Checks.laid("t22;f001;f111");
        dueOdds(war, 0, 1, 4);
        dueOdds(war, 1, 1, 4);
        war.act(1, 2);
        dueOdds(war, 0, 1, 2);
        dueOdds(war, 1, 0, 1);
        war.act(0, 2);
        dueOdds(war, 0, 0, 1);
        Checks.due("many(2): still eaten", war.many(2), 2);
        war = Checks.laid("t11;f001;f002;f003");
        dueOdds(war, 0, 7, 8);
    }
}
