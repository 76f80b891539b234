import java.util.ArrayList;
import java.util.HashMap;
import java.util.List;
import java.util.Map;
import java.util.regex.Matcher;
import java.util.regex.Pattern;

/** Term V a second time: a text read by the rows of words below. */
final class PlainText {
    private static final Map<String, String> LINES = Map.of(
            "bin", "! 0 5 rings 1 12 hold 1 1000 mouth 1 99 rough 0 90",
            "grain", "! 0 3 heavy 1 50 grip 0 99 price 0 999",
            "breath", "warm 0 9999 damp 0 9999 add 0 9");
    private static final List<String> WORDS = List.of("hot", "wet", "units", "beetles");
    private static final List<String> STATES = List.of("hung", "drawn");

    final Map<Integer, int[]> bins = new HashMap<>();
    final Map<Integer, int[]> grains = new HashMap<>();
    final List<int[]> breaths = new ArrayList<>();
    final List<List<String[]>> bars = new ArrayList<>();
    int lines = 0;
    int fault = 0;
    int place = -1;

    private final List<String> tokens = new ArrayList<>();
    private final List<Integer> places = new ArrayList<>();
    private int at = 0;

    private static final class Fault extends Exception {
        private static final long serialVersionUID = 1;
        private final int which;

        Fault(int which) {
            this.which = which;
        }
    }

    /** Heavy, grip and price. */
    int[] grain(int g) {
        return grains.getOrDefault(g, new int[] {10, 10, 100});
    }

    static PlainText read(String signs) {
        PlainText text = new PlainText();
        Matcher m = Pattern.compile("[a-z]+|[0-9]+|[^ \n]").matcher(signs);
        while (m.find()) {
            text.tokens.add(m.group());
            text.places.add(m.start());
        }
        text.tokens.add("");
        text.places.add(signs.length());
        try {
            while (!text.token().isEmpty()) {
                text.line();
            }
        } catch (Fault f) {
            text.fault = f.which;
            text.place = text.places.get(text.at);
        }
        return text;
    }

    private String token() {
        return tokens.get(at);
    }

    private void line() throws Fault {
        String kind = token();
        if (!LINES.containsKey(kind) && !kind.equals("bar")) {
            throw new Fault(1);
        }
        if (lines == 30) {
            throw new Fault(3);
        }
        at++;
        if (kind.equals("bar")) {
            bars.add(bar());
        } else {
            told(kind, LINES.get(kind).split(" "));
        }
        word(";");
        lines++;
    }

    private void word(String word) throws Fault {
        if (!token().equals(word)) {
            throw new Fault(1);
        }
        at++;
    }

    private int number(int least, int most, Map<Integer, int[]> told) throws Fault {
        if (!token().matches("[0-9]+")) {
            throw new Fault(1);
        }
        java.math.BigInteger n = new java.math.BigInteger(token());
        boolean within = n.bitLength() < 31 && n.intValue() >= least && n.intValue() <= most;
        if (!within || told != null && told.containsKey(n.intValue())) {
            throw new Fault(2);
        }
        at++;
        return n.intValue();
    }

    private void told(String kind, String[] row) throws Fault {
        Map<Integer, int[]> all = kind.equals("bin") ? bins : grains;
        int[] numbers = new int[row.length / 3];
        for (int i = 0; i < numbers.length; i++) {
            boolean names = row[3 * i].equals("!");
            if (!names) {
                word(row[3 * i]);
            }
            numbers[i] = number(Integer.parseInt(row[3 * i + 1]), Integer.parseInt(row[3 * i + 2]), names ? all : null);
        }
        if (kind.equals("breath")) {
            breaths.add(numbers);
        } else {
            all.put(numbers[0], java.util.Arrays.copyOfRange(numbers, 1, numbers.length));
        }
    }

    private List<String[]> bar() throws Fault {
        List<String[]> conds = new ArrayList<>();
        conds.add(cond());
        while (token().equals("and")) {
            at++;
            if (conds.size() == 3) {
                boolean begins = token().equals("not") || WORDS.contains(token()) || STATES.contains(token());
                throw new Fault(begins ? 3 : 1);
            }
            conds.add(cond());
        }
        return conds;
    }

    private String[] cond() throws Fault {
        int first = at;
        if (token().equals("not")) {
            at++;
        }
        if (STATES.contains(token())) {
            at++;
        } else if (WORDS.contains(token())) {
            at++;
            if (!token().equals("<") && !token().equals(">")) {
                throw new Fault(1);
            }
            at++;
            number(0, 9999, null);
        } else {
            throw new Fault(1);
        }
        return tokens.subList(first, at).toArray(new String[0]);
    }
}
