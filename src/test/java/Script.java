import java.lang.reflect.Method;
import java.util.HashMap;
import java.util.Map;

/**
 * Calls told as text. "draw 0 5 > 5" is done and answers 5; "draw 0 0 = -2" answers -2 and must change nothing: the
 * object looks as it did, and at the end as one that was never asked. "tape bar hung;" puts a text on the TAPE.
 */
final class Script {
    private static final Map<String, Method> CALLS = new HashMap<>();

    static {
        for (Method m : TallBins.class.getDeclaredMethods()) {
            CALLS.put(m.getName(), m);
        }
    }

    private final String sentence;
    private final TallBins x = new TallBins();
    private final TallBins twin = new TallBins();

    private Script(String sentence) {
        this.sentence = sentence;
    }

    /** Holds a sentence of the document to the calls; the text is told first, and IMAGE 2 keeps the empty house. */
    static void run(String sentence, String text, String... steps) {
        boolean asks = false;
        for (String step : steps) {
            asks |= step.contains(" = ");
        }
        for (int slot = 0; slot < (asks ? 4 : 1); slot++) {
            Script script = new Script(sentence);
            script.begin(text);
            for (String step : steps) {
                script.step(step);
            }
            if (asks) {
                script.alike("the twin", Look.into(script.twin, slot), Look.into(script.x, slot));
            }
        }
    }

    private void begin(String text) {
        for (TallBins each : new TallBins[] {x, twin}) {
            if (text != null) {
                int lines = Checks.tell(each, text);
                Checks.due(sentence + ": the text has no fault", 0, lines < 0 ? each.fault(1) + 1 : 0);
                each.keep(2);
            }
        }
    }

    private void step(String step) {
        if (step.startsWith("tape ")) {
            Checks.tape(x, step.substring(5));
            Checks.tape(twin, step.substring(5));
            return;
        }
        boolean asks = step.contains(" = ");
        String[] halves = step.split(asks ? " = " : " > ");
        int due = halves[1].equals("NOTHING") ? Checks.NOTHING : Integer.parseInt(halves[1]);
        String[] words = halves[0].split(" ");
        String before = asks ? Look.at(x) : "";
        Checks.due(sentence + ": " + step, due, call(x, words));
        if (asks) {
            alike(step, before, Look.at(x));
        } else {
            call(twin, words);
        }
    }

    private void alike(String what, String want, String got) {
        Checks.due(sentence + ": nothing else happens: " + what, 1, want.equals(got) ? 1 : 0);
    }

    private static int call(TallBins on, String[] words) {
        Method m = CALLS.get(words[0]);
        Class<?>[] types = m.getParameterTypes();
        if (types.length != words.length - 1) {
            throw new IllegalArgumentException(String.join(" ", words));
        }
        Object[] given = new Object[types.length];
        for (int i = 0; i < given.length; i++) {
            String word = words[i + 1];
            given[i] = types[i] == boolean.class ? (Object) Boolean.valueOf(word)
                    : types[i] == long.class ? (Object) Long.valueOf(word) : (Object) Integer.valueOf(word);
        }
        try {
            return (Integer) m.invoke(on, given);
        } catch (ReflectiveOperationException e) {
            throw new IllegalStateException(String.join(" ", words), e);
        }
    }
}
