/** What the tests share: comparing answers, and writing rows and texts on SHEETS. */
final class Checks {
    /** Three CELLS of 4, 5, 3 acres; MIGHT of the THINGS 3, 3, 4, 2. */
    static final String TEXT = "t453;f003;s112;g021;f122";
    static final int NULL = -11, CAST = -12, INDEX = -13, SIZE = -14;

    private static int asked = 0;
    private static int wrong = 0;

    private Checks() {
    }

    static void due(String call, long got, long want) {
        asked++;
        if (got != want) {
            wrong++;
            System.out.println(call + " answered " + got + ", due is " + want);
        }
    }

    static void end() {
        System.out.println(asked + " answers asked, " + wrong + " wrong");
        if (asked == 0 || wrong != 0) {
            System.exit(1);
        }
    }

    static void write(TableWar war, int sheet, int lane, int... numbers) {
        war.sheet(sheet, lane, numbers.length);
        for (int i = 0; i < numbers.length; i++) {
            war.put(sheet, i, numbers[i]);
        }
    }

    static int[] codes(String text) {
        return text.chars().toArray();
    }

    /** Tells a text to table() by sheet 3. */
    static int lay(TableWar war, String text) {
        write(war, 3, 2, codes(text));
        return war.table(3, 2, 0, text.length());
    }

    static TableWar laid(String text) {
        TableWar war = new TableWar();
        lay(war, text);
        war.lose(3);
        return war;
    }

    static int dine(TableWar war, int what, int... numbers) {
        write(war, 2, 2, numbers);
        return war.dinner(2, 2, 0, numbers.length / 2, what);
    }

    static void dueFault(TableWar war, String call, long got, long want, int fault) {
        due(call, got, want);
        due("fault() behind " + call, war.fault(), fault);
    }
}
