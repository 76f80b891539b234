import java.lang.reflect.Method;
import java.util.ArrayList;
import java.util.HashMap;
import java.util.List;
import java.util.Map;
import java.util.Random;

/** Every promise: random runs of 512 calls, each answer held against PlainHouse's. */
public final class AgainstPlainTest {
    /** What each call is given, and how often it is made. */
    private static final String[] CALLS = {
        "1 feed any any any any any", "1 end length", "1 text", "1 fault what",
        "14 fill bin grain lot units damp warm", "4 fills bin slot", "2 flow bin", "12 draw bin units", "4 poke bin",
        "8 turn bin bin", "4 plan warm", "3 planned few what", "4 load what", "6 ring bin ring what",
        "2 press bin ring flag", "2 wall bin ring flag", "2 worst bin flag", "5 day weather fans air",
        "6 beetles bin ring thousand", "3 mark bin few level", "2 foretell bin level", "5 gauge bin ring reading",
        "3 between bin ring few", "2 nextRope bin", "2 lies bin", "3 enter few bin", "4 leave few", "2 barred bin",
        "1 refused", "5 blend grain hundreds damp", "2 blended bin", "4 serve", "3 filled length what", "3 lot lot few",
        "4 bin bin what", "4 count what", "1 keep few", "1 back few", "1 row slot few length", "3 write slot length value",
        "2 paste slot few slot few length",
    };
    private static final int[] EDGES = {Integer.MIN_VALUE, Integer.MIN_VALUE + 1, -41, -31, -1, 0, 1, 4, 6, 8, 12, 13, 20, 21, 40, 41,
        51, 60, 61, 63, 64, 80, 81, 98, 99, 100, 600, 601, 1000, 1001, 9999, 10000, 65536, Integer.MAX_VALUE};

    private final Random random;
    private final TallBins real = new TallBins();
    private final PlainHouse plain = new PlainHouse();
    private final List<String> run = new ArrayList<>();
    private final int size;
    private static final Map<String, Method[]> METHODS = new HashMap<>();
    private static final List<String> OFTEN = new ArrayList<>();

    private AgainstPlainTest(int seed) {
        random = new Random(seed);
        size = 1 + seed % 4;
    }

    public static void main(String[] args) throws ReflectiveOperationException {
        for (Method m : TallBins.class.getDeclaredMethods()) {
            if (java.lang.reflect.Modifier.isPublic(m.getModifiers())) {
                METHODS.put(m.getName(), new Method[] {m, PlainHouse.class.getDeclaredMethod(m.getName(), m.getParameterTypes())});
            }
        }
        for (String call : CALLS) {
            for (int i = Integer.parseInt(call.split(" ")[0]); i > 0; i--) {
                OFTEN.add(call);
            }
        }
        Checks.due("each method is called", METHODS.size(), CALLS.length);
        int runs = args.length > 1 ? Integer.parseInt(args[1]) : 1200;
        for (int seed = 0; seed < runs; seed++) {
            new AgainstPlainTest(seed).go();
        }
        Checks.finish();
    }

    private void go() throws ReflectiveOperationException {
        slots();
        tell();
        while (run.size() < 512) {
            if (random.nextInt(60) == 0) {
                tell();
            }
            String[] call = OFTEN.get(random.nextInt(OFTEN.size())).split(" ");
            Class<?>[] types = METHODS.get(call[1])[0].getParameterTypes();
            Object[] given = new Object[types.length];
            for (int i = 0; i < given.length; i++) {
                given[i] = types[i] == boolean.class ? (Object) random.nextBoolean()
                        : types[i] == long.class ? (Object) (random.nextInt(4) == 0 ? random.nextLong() : number("small"))
                        : (Object) (int) number(call[i + 2]);
            }
            if (!call(call[1], given)) {
                return;
            }
        }
    }

    private boolean call(String name, Object... given) throws ReflectiveOperationException {
        if (run.size() >= 512) {
            return true;
        }
        Object due = METHODS.get(name)[1].invoke(plain, given);
        Object got = METHODS.get(name)[0].invoke(real, given);
        String told = name + java.util.Arrays.toString(given);
        run.add(told + " " + got);
        Checks.due(told, (Integer) due, (Integer) got);
        if (!due.equals(got)) {
            System.out.println(String.join("\n", run));
        }
        return due.equals(got);
    }

    private long number(String kind) {
        if (random.nextInt(40) == 0) {
            return EDGES[random.nextInt(EDGES.length)];
        }
        return switch (kind) {
            case "any" -> random.nextInt();
            case "bin" -> random.nextInt(random.nextInt(4) == 0 ? 6 : size + 1);
            case "grain" -> random.nextInt(random.nextInt(9) == 0 ? 4 : 1);
            case "lot" -> random.nextInt(8);
            case "units" -> 1 + random.nextInt(random.nextInt(6) == 0 ? 9999 : random.nextInt(2) == 0 ? 400 : 30);
            case "damp" -> random.nextInt(2) == 0 ? 12 + random.nextInt(9) : random.nextInt(41);
            case "warm" -> random.nextInt(91) - 30;
            case "level" -> random.nextInt(60) - 10;
            case "weather" -> random.nextInt(91) - 40;
            case "fans" -> random.nextInt(64);
            case "air" -> random.nextInt(random.nextInt(3) == 0 ? 10000 : 300);
            case "thousand" -> 1 + random.nextInt(1000);
            case "reading" -> random.nextInt(5) == 0 ? 99 : random.nextInt(3) == 0 ? random.nextInt(111) - 30 : 15 + random.nextInt(9);
            case "hundreds" -> 1 + random.nextInt(random.nextInt(3) == 0 ? 20 : 6);
            case "ring" -> random.nextInt(random.nextInt(3) == 0 ? 12 : 4);
            case "what" -> random.nextInt(14);
            case "slot" -> random.nextInt(4);
            case "few" -> random.nextInt(4);
            case "length" -> random.nextInt(61);
            default -> random.nextInt(9);
        };
    }

    // ---- texts and rows that are good for something ----

    private void slots() throws ReflectiveOperationException {
        for (int s = 0; s < 3; s++) {
            int width = random.nextInt(4);
            call("row", s, width, 12);
            int[] fills = {0, random.nextInt(8), 1 + random.nextInt(90), random.nextInt(20), random.nextInt(40) - 10,
                random.nextInt(2), random.nextInt(8), 1 + random.nextInt(300), random.nextInt(40), random.nextInt(40)};
            for (int i = 0; i < fills.length; i++) {
                call("write", s, i, (long) fills[i] + (random.nextInt(3) == 0 ? 1L << (8 << random.nextInt(4)) : 0L));
            }
        }
    }

    private void tell() throws ReflectiveOperationException {
        String text = text();
        if (random.nextInt(3) == 0) {
            text = spoilt(text);
        }
        call("end", 0);
        if (text.length() > 600) {
            text = text.substring(0, 600);
        }
        for (int i = 0; i < text.length(); i += 20) {
            Object[] given = new Object[5];
            for (int k = 0; k < 5; k++) {
                int n = 0;
                for (int j = i + 4 * k; j < i + 4 * k + 4; j++) {
                    n = n << 8 | (j < text.length() ? text.charAt(j) & 0xFF : 0);
                }
                given[k] = n;
            }
            call("feed", given);
        }
        call("end", text.length());
        call("text");
        call("fault", 0);
        call("fault", 1);
    }

    private String text() {
        List<String> lines = new ArrayList<>();
        for (int b = 0; b < size + 1; b++) {
            int hold = random.nextInt(3) == 0 ? 1 + random.nextInt(1000) : 1 + random.nextInt(120);
            int mouth = random.nextInt(4) == 0 ? 1 + random.nextInt(99) : 3 + random.nextInt(20);
            lines.add("bin " + b + " rings " + (1 + random.nextInt(random.nextInt(3) == 0 ? 12 : 4)) + " hold " + hold
                    + " mouth " + mouth + " rough " + random.nextInt(91) + ";");
        }
        for (int g = random.nextInt(5); g < 4; g += 2) {
            lines.add("grain " + g + " heavy " + (1 + random.nextInt(50)) + " grip " + random.nextInt(30) + " price " + random.nextInt(1000) + ";");
        }
        for (int i = random.nextInt(3); i > 0; i--) {
            lines.add("breath warm " + random.nextInt(30) + " damp " + random.nextInt(30) + " add " + random.nextInt(10) + ";");
        }
        for (int i = random.nextInt(4); i > 0; i--) {
            StringBuilder bar = new StringBuilder("bar ").append(cond());
            for (int c = random.nextInt(random.nextInt(9) == 0 ? 4 : 3); c > 0; c--) {
                bar.append(" and ").append(cond());
            }
            lines.add(bar.append(';').toString());
        }
        java.util.Collections.shuffle(lines, random);
        while (random.nextInt(12) == 0) {
            lines.add("bar hung;".repeat(random.nextInt(30)));
        }
        return String.join(random.nextBoolean() ? "" : "\n", lines);
    }

    private String cond() {
        String[] words = {"hot", "wet", "units", "beetles", "hung", "drawn"};
        int word = random.nextInt(6);
        String not = random.nextInt(3) == 0 ? "not " : "";
        if (word > 3) {
            return not + words[word];
        }
        int most = new int[] {40, 30, 500, 3000}[word];
        return not + words[word] + (random.nextBoolean() ? "<" : " > ") + random.nextInt(most);
    }

    /** One sign or token is another one. */
    private String spoilt(String text) {
        int at = random.nextInt(text.length() + 1);
        String[] bits = {" ", "\n", "\t", "x", "bin", "grain ", "7", "0", "99999999999", ";", "<", ">", "and ", "not ", "hung ", "é", "\0", "A",
            "bar ", " bin 0 ", "bar hung;"};
        String bit = bits[random.nextInt(bits.length)];
        int end = Math.min(text.length(), at + random.nextInt(4) * random.nextInt(4));
        return text.substring(0, at) + (random.nextInt(4) == 0 ? "" : bit) + text.substring(end);
    }
}
