/** The edges that the document names of READINGS, what follows from them, and ODDS (promises 16 to 21). */
public final class ReadingEdgesTest {
    private static final int NONE = TableWar.NONE;
    private static final int ALL_STRENGTHS = 1023, ALL_KINDS = 7;

    public static void main(String[] args) {
        eightAtMost();
        numberedByHowManyAreAhead();
        takenBack();
        strengthsFromNoneToAll();
        strengthsOfTheLeastAndTheGreatestBit();
        kindsFromNoneToAll();
        spotsOfEachCount();
        inPlaceOfWhatItIsAlone();
        allReadingsAreSo();
        ofOneThatIsEaten();
        noTableNoReadings();
        oddsOfOneToSix();
        oddsInLeastTerms();
        oddsOfEven();
        oddsOfWhatIsEaten();
        oddsWhateverTheReadings();
        Checks.end();
    }

    private static void eightAtMost() {
        Run run = Run.of("t11;f001;f111", "READINGS, 8 at most");
        for (int k = 0; k < 8; k++) {
            run.due("many(3)", k).due("reading(" + k % 2 + ", " + k % 2 + ")", k);
        }
        run.keeps("reading(0, 0)", TableWar.FULL).keeps("reading(1, NONE)", TableWar.FULL).due("many(3)", 8);
        run.due("back(1)", 7).due("reading(0, NONE)", 7).keeps("reading(0, 0)", TableWar.FULL);
        run.due("strengths(0)", 0).due("back(1)", 7).due("strengths(0)", ALL_STRENGTHS - 1);
    }

    private static void numberedByHowManyAreAhead() {
        Run run = Run.of("t11;f001;f111", "each numbered by how many there are ahead of it (the first one 0)");
        run.due("reading(0, 0)", 0).due("reading(0, 0)", 1).due("back(2)", 0).due("reading(1, 1)", 0);
        run.due("reading(1, NONE)", 1).due("reading(0, 1)", 2).due("back(1)", 2).due("reading(0, 1)", 2);
    }

    private static void takenBack() {
        Run run = Run.of("t11;f001;f111", "The last k READINGS (0 .. as many as there are) are taken back");
        run.keeps("back(0)", 0).keeps("back(1)", -2).keeps("back(-1)", -2);
        for (int many = 1; many <= 8; many++) {
            run.does("reading(0, 0)");
            run.keeps("back(0)", many).keeps("back(" + (many + 1) + ")", -2).keeps("back(-1)", -2);
        }
        run.keeps("back(9)", -2).keeps("back(LEAST)", -2).keeps("back(MOST)", -2);
        run.due("back(3)", 5).due("back(5)", 0).keeps("back(1)", -2).keeps("back(0)", 0).due("reading(1, 1)", 0);
        run.due("strengths(0)", ALL_STRENGTHS);
    }

    /** STRENGTHS, KINDS or SPOTS of thing 0 by one reading that cell 0 was held by house 0, 1 or none. */
    private static void three(String sentence, String text, String call, long by0, long by1, long byNone) {
        Run.of(text, sentence).does("reading(0, 0)").keeps(call, by0);
        Run.of(text, sentence).does("reading(0, 1)").keeps(call, by1);
        Run.of(text, sentence).does("reading(0, NONE)").keeps(call, byNone);
    }

    private static void strengthsFromNoneToAll() {
        String sentence = "STRENGTHS of a THING: 0 .. 9";
        Run.of("t11;f005;f102", sentence + ": no READINGS").keeps("strengths(0)", ALL_STRENGTHS);
        three(sentence, "t11;f005;f102", "strengths(0)", 1023 - 7, 3, 4);
        three(sentence, "t11;s005;f102", "strengths(0)", 1023 - 3, 1, 2);
        three(sentence, "t11;g005;f104", "strengths(0)", 1023 - 3, 1, 2);
        three(sentence, "t11;g005;f105", "strengths(0)", 1023 - 3, 3, 0);
        three(sentence, "t11;g005;f101", "strengths(0)", 1023, 0, 0);
        three(sentence, "t11;f015;f101", "strengths(0)", 0, 1023, 0);
        three(sentence, "t11;f015;f112", "strengths(0)", 0, 0, 1023);
    }

    private static void strengthsOfTheLeastAndTheGreatestBit() {
        String sentence = "Sets are told as bits (bit k for number k): 0 and 9";
        three(sentence, "t11;f005;f101", "strengths(0)", 1023 - 3, 1, 2);
        three(sentence, "t11;f005;f100", "strengths(0)", 1022, 0, 1);
        three(sentence, "t11;f005;f108", "strengths(0)", 512, 255, 256);
        three(sentence, "t11;f005;f109", "strengths(0)", 0, 511, 512);
        three(sentence, "t11;f005;s109", "strengths(0)", 0, 1023, 0);
    }

    private static void kindsFromNoneToAll() {
        String sentence = "KINDS of a THING: 0 .. 2";
        Run.of("t11;f004;f104", sentence + ": no READINGS").keeps("kinds(0)", ALL_KINDS);
        three(sentence, "t11;f004;f103", "kinds(0)", 7, 0, 0);
        three(sentence, "t11;f004;f104", "kinds(0)", 6, 0, 1);
        three(sentence, "t11;g004;f105", "kinds(0)", 4, 1, 2);
        three(sentence, "t11;s004;f109", "kinds(0)", 4, 3, 0);
        three(sentence, "t11;s004;s109", "kinds(0)", 0, 3, 4);
        three(sentence, "t11;s004;g105", "kinds(0)", 0, 7, 0);
        three(sentence, "t11;f000;f100", "kinds(0)", 6, 0, 1);
    }

    private static void spotsOfEachCount() {
        for (int cells = 2; cells <= 6; cells++) {
            String text = "t" + "1".repeat(cells) + ";f001";
            int all = (1 << cells) - 1;
            Run.of(text, "SPOTS of a THING: CELLS: no READINGS").keeps("spots(0)", all);
            for (int c = 0; c < cells; c++) {
                String begin = "reading(" + c + ", ";
                Run.of(text, "SPOTS: held").does(begin + "0)").keeps("spots(0)", 1 << c);
                Run.of(text, "SPOTS: not held").does(begin + "NONE)").keeps("spots(0)", all & ~(1 << c));
                Run.of(text, "SPOTS: none").does(begin + "1)").keeps("spots(0)", 0);
            }
        }
    }

    private static void inPlaceOfWhatItIsAlone() {
        String sentence = "in place of what it is alone: all else is as it is";
        Run run = Run.of("t11;f002;f002;f105", sentence).does("reading(0, 0)");
        run.keeps("strengths(0)", 1023 - 15).keeps("strengths(1)", 1023 - 15).keeps("strengths(2)", 15);
        run.keeps("kinds(0)", 4).keeps("kinds(1)", 4).keeps("kinds(2)", 0).keeps("spots(0)", 0).keeps("spots(2)", 2);
        run.due("ofThing(0, 3)", 2).due("ofThing(1, 0)", 0).due("ofThing(2, 2)", 0);
        run.does("arm(1, 9)").keeps("strengths(0)", ALL_STRENGTHS).keeps("spots(0)", 3).keeps("spots(1)", 1);
    }

    private static void allReadingsAreSo() {
        Run run = Run.of("t1111;f004;f103;f112", "by which all READINGS are so").does("reading(0, 0)");
        run.keeps("strengths(0)", 1023 - 15).keeps("strengths(1)", 15).keeps("spots(0)", 1);
        run.does("reading(2, NONE)").keeps("strengths(0)", 1023 - 15).keeps("spots(1)", 11).keeps("spots(2)", 10);
        run.does("reading(3, 1)").keeps("strengths(0)", 0).keeps("spots(1)", 8).keeps("spots(2)", 8);
        run.does("reading(1, 1)").keeps("spots(1)", 8).keeps("spots(2)", 0).keeps("kinds(2)", 0);
        run.does("reading(1, 0)").keeps("spots(1)", 0).keeps("strengths(1)", 0).keeps("kinds(1)", 0);
        Run last = Run.of("t11;f004;f103", "by which all are so: the eighth, too");
        for (int k = 0; k < 7; k++) {
            last.does("reading(0, 0)");
        }
        last.keeps("strengths(0)", 1023 - 15).does("reading(0, 1)").keeps("strengths(0)", 0).keeps("spots(0)", 0);
    }

    private static void ofOneThatIsEaten() {
        for (int cells = 2; cells <= 6; cells++) {
            String text = "t" + "1".repeat(cells) + ";g019;f101";
            Run run = Run.of(text, "of one that is EATEN all or none, of STRENGTHS, KINDS, too").does("act(0, 2)");
            run.keeps("strengths(0)", ALL_STRENGTHS).keeps("kinds(0)", ALL_KINDS).keeps("spots(0)", (1 << cells) - 1);
            run.does("reading(0, 1)").does("reading(1, NONE)");
            run.keeps("strengths(0)", ALL_STRENGTHS).keeps("kinds(0)", ALL_KINDS).keeps("spots(0)", (1 << cells) - 1);
            run.does("reading(1, 0)");
            run.keeps("strengths(0)", 0).keeps("kinds(0)", 0).keeps("spots(0)", 0);
            run.does("back(2)").does("serve()");
            run.keeps("strengths(0)", ALL_STRENGTHS).keeps("kinds(0)", ALL_KINDS).keeps("spots(0)", (1 << cells) - 2);
        }
    }

    private static void noTableNoReadings() {
        Run run = new Run("(0 all without a TABLE)");
        run.keeps("reading(0, 0)", -1).keeps("reading(0, NONE)", -1).keeps("back(0)", 0).keeps("back(1)", -2);
        run.due("many(3)", 0);
    }

    // ---- ODDS

    private static void share(Run run, int h, long upper, long lower) {
        run.keeps("odds(" + h + ", 0)", upper).keeps("odds(" + h + ", 1)", lower);
    }

    private static void oddsOfOneToSix() {
        for (int many = 1; many <= 6; many++) {
            Run run = Run.of("t01" + ";f011".repeat(many), "if each THING is, or is not, all such sets alike: " + many);
            share(run, 0, (1 << many) - 1, 1 << many);
            share(run, 1, 0, 1);
            run = Run.of("t90" + ";s100".repeat(many), "ODDS of HOUSE 1: " + many);
            share(run, 1, (1 << many) - 1, 1 << many);
            share(run, 0, 0, 1);
        }
    }

    private static void oddsInLeastTerms() {
        String sentence = "as upper and lower number (above 0) in least terms";
        share(Run.of("t10;f001;f011", sentence), 0, 1, 2);
        share(Run.of("t10;f001;f011;f011;f011;f011;f011", sentence), 0, 1, 2);
        share(Run.of("t00;f001;f011;f011", sentence), 0, 0, 1);
        share(Run.of("t10;f000;f011;f111", sentence), 1, 0, 1);
        share(Run.of("t53;f001;f011;f111", sentence), 0, 5, 8);
        share(Run.of("t53;f001;f011;f111", sentence), 1, 1, 8);
    }

    private static void oddsOfEven() {
        Run run = Run.of("t22;f001;f111", "by which its LAND is more than that of the other one: even is not more");
        share(run, 0, 1, 4);
        share(run, 1, 1, 4);
        run.does("stain(0, 3)");
        share(run, 0, 1, 2);
        share(run, 1, 1, 4);
    }

    private static void oddsOfWhatIsEaten() {
        Run run = Run.of("t24;f001;f002;f113", "each THING that is not EATEN");
        share(run, 0, 3, 8);
        share(run, 1, 1, 2);
        run.does("act(0, 2)");
        share(run, 0, 1, 4);
        share(run, 1, 1, 2);
        run.does("act(2, 2)");
        share(run, 0, 1, 2);
        share(run, 1, 0, 1);
        run.does("act(1, 2)");
        share(run, 0, 0, 1);
        share(run, 1, 0, 1);
        run.due("many(2)", 3).due("serve()", 3);
        share(run, 0, 3, 8);
    }

    private static void oddsWhateverTheReadings() {
        Run run = Run.of("t24;f001;f002;f113", "(whatever the READINGS are)").does("reading(0, 1)").does("reading(0, 0)");
        share(run, 0, 3, 8);
        share(run, 1, 1, 2);
    }
}
