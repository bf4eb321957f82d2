import java.util.regex.Matcher;
import java.util.regex.Pattern;

/**
 * Many calls told by a fixed sequence of numbers: answers that search are compared with a search in
 * another way (by acts on fresh objects), FIRST FAULTS with a pattern's, and no call may throw.
 */
public final class RandomCallsTest {
    private static final int MOST = Integer.MAX_VALUE, LEAST = Integer.MIN_VALUE;
    private static final int[] ODD_NUMBERS = {-1, -9, 60, 61, 30, MOST, LEAST, MOST - 1, LEAST + 1, 116, 59};
    private static long seed = 20261118;

    public static void main(String[] args) {
        for (int k = 0; k < 4000; k++) {
            compareFirstFault();
        }
        for (int k = 0; k < 400; k++) {
            compareSearches();
        }
        for (int k = 0; k < 3000; k++) {
            callAnything();
        }
        Checks.end();
    }

    private static int below(int bound) {
        seed = seed * 6364136223846793005L + 1442695040888963407L;
        return (int) ((seed >>> 33) % bound);
    }

    // ---- texts

    private static String anyText() {
        int cells = 2 + below(5);
        StringBuilder text = new StringBuilder("t");
        for (int c = 0; c < cells; c++) {
            text.append(below(10));
        }
        int things = 1 + below(6);
        for (int x = 0; x < things; x++) {
            text.append(';').append("fsg".charAt(below(3))).append(below(2)).append(below(cells));
            text.append(below(3) == 0 ? below(10) : below(4));
        }
        return text.toString();
    }

    private static String anyFaultyText() {
        StringBuilder text = new StringBuilder(anyText());
        for (int times = below(3); times > 0 && text.length() > 0; times--) {
            int at = below(text.length());
            char code = "t;fsg0123456789/:x".charAt(below(18));
            switch (below(4)) {
                case 0: text.setCharAt(at, code); break;
                case 1: text.insert(at, code); break;
                case 2: text.deleteCharAt(at); break;
                default: text.setLength(at); break;
            }
        }
        return text.toString();
    }

    private static final Pattern WHOLE = whole();

    private static Pattern whole() {
        StringBuilder pattern = new StringBuilder();
        for (int cells = 2; cells <= 6; cells++) {
            pattern.append(cells > 2 ? "|" : "").append("t[0-9]{").append(cells).append("}");
            pattern.append("(;[fsg][01][0-").append(cells - 1).append("][0-9]){1,6}");
        }
        return Pattern.compile(pattern.toString());
    }

    /** The place of the first code with which no text goes on; -1: it is a text. */
    private static int firstFault(String text) {
        for (int k = 0; k < text.length(); k++) {
            Matcher begun = WHOLE.matcher(text.substring(0, k + 1));
            if (!begun.matches() && !begun.hitEnd()) {
                return k;
            }
        }
        return WHOLE.matcher(text).matches() ? -1 : text.length();
    }

    private static void compareFirstFault() {
        String text = anyFaultyText();
        int fault = firstFault(text);
        int things = (int) text.chars().filter(c -> c == ';').count();
        Checks.due("table of '" + text + "'", Checks.lay(new TableWar(), text), fault < 0 ? things : -100 - fault);
    }

    // ---- searches

    private static String textNow;
    private static int eatenNow;

    /** A fresh object with the text and what is eaten now. */
    private static TableWar fresh(String text) {
        TableWar war = Checks.laid(text);
        for (int x = 0; x < war.many(0); x++) {
            if ((eatenNow >> x & 1) == 1) {
                war.act(x, 2);
            }
        }
        return war;
    }

    private static void compareSearches() {
        textNow = anyText();
        eatenNow = below(3) == 0 ? below(64) : 0;
        TableWar war = fresh(textNow);
        for (int h = 0; h < 2; h++) {
            compareMove(war, h, false);
            compareMove(war, h, true);
            compareOdds(war, h);
            for (int c = 0; c < war.many(1); c++) {
                int want = need(war, h, c, 0, 0, 0);
                Checks.due("need(" + h + ", " + c + ") of " + textNow, war.need(h, c),
                    want == MOST ? TableWar.NONE : want);
            }
        }
        compareReadings(war);
        compareDinner(war);
    }

    private static int lead(TableWar war, int h) {
        return 100 + war.land(h) - war.land(1 - h);
    }

    private static void compareMove(TableWar war, int h, boolean isSafe) {
        int[] best = {TableWar.NONE, TableWar.NONE, TableWar.NONE};
        for (int x = 0; x < war.many(0); x++) {
            for (int act = 0; act < 3; act++) {
                TableWar then = fresh(textNow);
                if (then.ofThing(x, 1) != h || then.act(x, act) == TableWar.STATE) {
                    continue;
                }
                if (isSafe && then.good(1 - h, 0) != TableWar.NONE) {
                    int reply = then.good(1 - h, 0);
                    then.act(reply, then.good(1 - h, 1));
                }
                if (lead(then, h) > best[2]) {
                    best = new int[] {x, act, lead(then, h)};
                }
            }
        }
        for (int what = 0; what < 3; what++) {
            int got = isSafe ? war.safe(h, what) : war.good(h, what);
            String name = isSafe ? "safe(" : "good(";
            Checks.due(name + h + ", " + what + ") of " + textNow + " less " + eatenNow, got, best[what]);
        }
    }

    private static void compareOdds(TableWar war, int h) {
        TableWar then = fresh(textNow);
        long upper = 0;
        long lower = 0;
        for (int set = 0; set < 1 << war.many(0); set++) {
            if ((set & eatenNow) == 0) {
                then.serve();
                for (int x = 0; x < war.many(0); x++) {
                    if (((set | eatenNow) >> x & 1) == 1) {
                        then.act(x, 2);
                    }
                }
                lower++;
                upper += then.land(h) > then.land(1 - h) ? 1 : 0;
            }
        }
        long a = upper;
        long b = lower;
        while (b != 0) {
            long rest = a % b;
            a = b;
            b = rest;
        }
        Checks.due("odds(" + h + ", 0) of " + textNow + " less " + eatenNow, war.odds(h, 0), upper / a);
        Checks.due("odds(" + h + ", 1) of " + textNow + " less " + eatenNow, war.odds(h, 1), lower / a);
    }

    /** The fewest steps over all places of the things from x on, might and steps so far told; MOST: none. */
    private static int need(TableWar war, int h, int c, int x, int might, int steps) {
        if (x == war.many(0)) {
            return might > war.might(1 - h, c) ? steps : MOST;
        }
        if (war.ofThing(x, 1) != h || war.ofThing(x, 2) == TableWar.NONE) {
            return need(war, h, c, x + 1, might, steps);
        }
        int best = MOST;
        for (int place = 0; place < war.many(1); place++) {
            int far = Math.abs(place - war.ofThing(x, 2));
            int here = place == c ? war.ofThing(x, 4) : 0;
            best = Math.min(best, need(war, h, c, x + 1, might + here, steps + far));
        }
        return best;
    }

    private static void compareReadings(TableWar war) {
        int many = below(4);
        int[][] readings = new int[many][2];
        for (int k = 0; k < many; k++) {
            int c = below(war.many(1));
            readings[k][0] = c;
            readings[k][1] = below(3) == 0 ? new int[] {0, 1, TableWar.NONE}[below(3)] : war.holds(c);
            Checks.due("reading " + k, war.reading(c, readings[k][1]), k);
        }
        for (int x = 0; x < war.many(0); x++) {
            String of = " of " + textNow + " less " + eatenNow;
            Checks.due("strengths(" + x + ")" + of, war.strengths(x), fitting(readings, x, 3, "0123456789"));
            Checks.due("kinds(" + x + ")" + of, war.kinds(x), fitting(readings, x, 0, "fsg"));
            String cells = "012345".substring(0, war.many(1));
            Checks.due("spots(" + x + ")" + of, war.spots(x), fitting(readings, x, 2, cells));
        }
    }

    /** Which of the signs at a part of a thing's text make all readings so. */
    private static int fitting(int[][] readings, int x, int part, String signs) {
        int at = textNow.indexOf(';') + 5 * x + 1 + part;
        int set = 0;
        for (int v = 0; v < signs.length(); v++) {
            StringBuilder text = new StringBuilder(textNow);
            text.setCharAt(at, signs.charAt(v));
            TableWar then = fresh(text.toString());
            boolean all = true;
            for (int[] reading : readings) {
                all &= then.holds(reading[0]) == reading[1];
            }
            set |= all ? 1 << v : 0;
        }
        return set;
    }

    private static void compareDinner(TableWar war) {
        TableWar then = fresh(textNow);
        int n = below(7);
        int[] pairs = new int[2 * n];
        int wrong = TableWar.NONE;
        for (int p = 0; p < n; p++) {
            int x = below(war.many(0));
            for (int tries = 0; tries < 5 && war.ofThing(x, 1) != p % 2; tries++) {
                x = below(war.many(0));
            }
            pairs[2 * p] = x;
            pairs[2 * p + 1] = below(3);
            if (wrong == TableWar.NONE
                    && (war.ofThing(x, 1) != p % 2 || then.act(x, pairs[2 * p + 1]) == TableWar.STATE)) {
                wrong = p;
            }
        }
        int told = -100 - wrong;
        boolean isWrong = wrong != TableWar.NONE;
        Checks.due("dinner 1", Checks.dine(war, 1, pairs), wrong);
        Checks.due("dinner 0", Checks.dine(war, 0, pairs), isWrong ? told : then.land(0));
        Checks.due("dinner 2", Checks.dine(war, 2, pairs), isWrong ? told : then.land(1));
        Checks.due("dinner 3", Checks.dine(war, 3, pairs), isWrong ? told : then.many(2));
        for (int k = 0; k < 6; k++) {
            int where = then.ofThing(k, 2) < 0 ? TableWar.NONE : then.ofThing(k, 2);
            Checks.due("dinner 10 and " + k, Checks.dine(war, 10 + k, pairs), isWrong ? told : where);
            int holder = then.holds(k) < 0 ? TableWar.NONE : then.holds(k);
            Checks.due("dinner 20 and " + k, Checks.dine(war, 20 + k, pairs), isWrong ? told : holder);
        }
    }

    // ---- anything at all

    private static int any() {
        return below(6) == 0 ? ODD_NUMBERS[below(ODD_NUMBERS.length)] : below(8) - 1;
    }

    private static void callAnything() {
        TableWar war = new TableWar();
        if (below(5) != 0) {
            Checks.lay(war, anyText());
        }
        for (int k = 0; k < 500; k++) {
            if (below(60) == 0) {
                Checks.lay(war, anyFaultyText());
            }
            callAnyOne(war, below(31));
        }
    }

    private static long callAnyOne(TableWar war, int call) {
        switch (call) {
            case 0: return war.table(any(), any(), any(), any());
            case 1: return war.ofThing(any(), any());
            case 2: return war.acres(any());
            case 3: return war.stain(any(), any());
            case 4: return war.arm(any(), any());
            case 5: return war.might(any(), any());
            case 6: return war.holds(any());
            case 7: return war.land(any());
            case 8: return war.act(any(), any());
            case 9: return war.serve();
            case 10: return war.dinner(any(), any(), any(), any(), any());
            case 11: return war.good(any(), any());
            case 12: return war.safe(any(), any());
            case 13: return war.need(any(), any());
            case 14: return war.reading(any(), any());
            case 15: return war.back(any());
            case 16: return war.strengths(any());
            case 17: return war.kinds(any());
            case 18: return war.spots(any());
            case 19: return war.odds(any(), any());
            case 20: return war.sheet(any(), any(), any());
            case 21: return war.lose(any());
            case 22: return war.put(any(), any(), any());
            case 23: return war.cell(any(), any(), any());
            case 24: return war.copy(any(), any(), any(), any(), any());
            case 25: return war.tell(any());
            case 26: return war.pass(any());
            case 27: return war.as(any(), any());
            case 28: return war.trace();
            case 29: return war.fault();
            default: return war.many(any());
        }
    }
}
