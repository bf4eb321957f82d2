import java.lang.reflect.InvocationTargetException;
import java.lang.reflect.Method;
import java.util.ArrayList;
import java.util.HashMap;
import java.util.List;
import java.util.Map;

/**
 * A run of calls on a new object, each told as a text such as "put(0, 59, MOST)", under the sentence
 * of the document that the run tests.
 */
final class Run {
    static final int MOST_CALLS = 512;

    private static final List<String> NAMING_FAULTS =
        List.of("table", "dinner", "sheet", "put", "cell", "copy", "as");
    /** They change nothing but fault(), that is 4 behind the one and 0 behind the other. */
    private static final String[] FAULTS_AHEAD = {"sheet(0, 0, -1)", "sheet(-1, 0, 0)"};
    private static final Map<String, Method> METHODS = methods();

    private final String sentence;
    private final TableWar war = new TableWar();
    /** The calls so far, but for those that keep all as it is. */
    private final List<String> changing = new ArrayList<>();
    private int calls;

    Run(String sentence) {
        this.sentence = sentence;
    }

    /** A new object with this text's table. */
    static Run of(String text, String sentence) {
        return new Run(sentence).lay(text);
    }

    private static Map<String, Method> methods() {
        Map<String, Method> found = new HashMap<>();
        for (Method method : TableWar.class.getMethods()) {
            if (method.getDeclaringClass() == TableWar.class) {
                found.put(method.getName(), method);
            }
        }
        return found;
    }

    // ---- telling calls

    /** A call whose answer is compared. */
    Run due(String call, long want) {
        changing.add(call);
        Checks.due(told(call), asked(call), want);
        return this;
    }

    /** A call that sets the scene: its answer is not compared. */
    Run does(String call) {
        changing.add(call);
        asked(call);
        return this;
    }

    /** A call whose answer is another one than this. */
    Run isnt(String call, long unwanted) {
        changing.add(call);
        long got = asked(call);
        Checks.due(told(call) + " (" + got + ") is " + unwanted, got == unwanted ? 1 : 0, 0);
        return this;
    }

    /** A call whose answer is compared, and that must change nothing (but fault(), if it names one). */
    Run keeps(String call, long want) {
        boolean isFault = want <= Checks.NULL && want >= Checks.SIZE;
        return keepsAll(call, want, isFault ? (int) (-10 - want) : 0);
    }

    /** A call that answers LOST, with this fault() behind it, and must change nothing. */
    Run lost(String call, int fault) {
        return keepsAll(call, TableWar.LOST, fault);
    }

    private Run keepsAll(String call, long want, int fault) {
        Checks.due(told(call), asked(call), want);
        for (String ahead : FAULTS_AHEAD) {
            TableWar asked = again(ahead);
            TableWar twin = again(ahead);
            int dueFault = NAMING_FAULTS.contains(nameOf(call)) ? fault : asked.fault();
            Checks.due(told(call) + " again", answer(asked, call), want);
            Checks.due("fault() behind " + told(call) + " behind " + ahead, asked.fault(), dueFault);
            List<Long> is = allOf(asked);
            List<Long> was = allOf(twin);
            Checks.due("what is as it was behind " + told(call) + " of " + is + " and " + was,
                is.equals(was) ? 1 : 0, 1);
        }
        return this;
    }

    Run row(int sheet, int lane, int... numbers) {
        does("sheet(" + sheet + ", " + lane + ", " + numbers.length + ")");
        for (int i = 0; i < numbers.length; i++) {
            does("put(" + sheet + ", " + i + ", " + numbers[i] + ")");
        }
        return this;
    }

    /** Tells the text by sheet 3, that has nothing then. */
    Run lay(String text) {
        row(3, 2, Checks.codes(text));
        does("table(3, 2, 0, " + text.length() + ")");
        return does("lose(3)");
    }

    // ---- asking

    private String told(String call) {
        return "'" + sentence + "': " + call;
    }

    private long asked(String call) {
        calls++;
        if (calls > MOST_CALLS) {
            Checks.due(told(call) + ": calls", calls, MOST_CALLS);
        }
        return answer(war, call);
    }

    private TableWar again(String ahead) {
        TableWar another = new TableWar();
        for (String call : changing) {
            answer(another, call);
        }
        answer(another, ahead);
        return another;
    }

    private static String nameOf(String call) {
        return call.substring(0, call.indexOf('('));
    }

    private static int number(String told) {
        switch (told) {
            case "MOST": return Integer.MAX_VALUE;
            case "LEAST": return Integer.MIN_VALUE;
            case "NONE": return TableWar.NONE;
            default: return Integer.parseInt(told);
        }
    }

    private static long answer(TableWar war, String call) {
        String inside = call.substring(call.indexOf('(') + 1, call.length() - 1);
        String[] numbers = inside.isEmpty() ? new String[0] : inside.split(", ");
        Object[] arguments = new Object[numbers.length];
        for (int k = 0; k < numbers.length; k++) {
            arguments[k] = number(numbers[k]);
        }
        try {
            return ((Number) METHODS.get(nameOf(call)).invoke(war, arguments)).longValue();
        } catch (InvocationTargetException thrown) {
            throw new IllegalStateException(call, thrown.getCause());
        } catch (IllegalAccessException hidden) {
            throw new IllegalStateException(call, hidden);
        }
    }

    // ---- all that an object tells

    /** Told by calls that change much: the object is used up. */
    private static List<Long> allOf(TableWar war) {
        List<Long> all = new ArrayList<>();
        all.add((long) war.trace());
        for (int what = 0; what < 4; what++) {
            all.add((long) war.many(what));
        }
        addThings(all, war);
        for (int c = 0; c < war.many(1); c++) {
            all.add((long) war.acres(c));
        }
        for (int k = 0; k < 4; k++) {
            addRow(all, war, k);
        }
        addReadings(all, war);
        all.add((long) war.serve());
        for (int x = 0; x < war.many(0); x++) {
            all.add((long) war.ofThing(x, 2));
        }
        return all;
    }

    private static void addThings(List<Long> all, TableWar war) {
        for (int x = 0; x < war.many(0); x++) {
            for (int what = 0; what < 5; what++) {
                all.add((long) war.ofThing(x, what));
            }
        }
    }

    private static void addRow(List<Long> all, TableWar war, int k) {
        for (int lane = 0; lane < 3; lane++) {
            all.add(war.cell(k, 0, lane));
            for (int i = 1; war.fault() == 0; i++) {
                all.add(war.cell(k, i, lane));
            }
            all.add((long) war.fault());
        }
    }

    /** Each reading, told by what follows from those that are left when the later ones are taken back. */
    private static void addReadings(List<Long> all, TableWar war) {
        for (int left = war.many(3); left >= 0; left--) {
            for (int x = 0; x < war.many(0); x++) {
                all.add((long) war.strengths(x));
                all.add((long) war.spots(x));
            }
            war.back(1);
        }
    }
}
