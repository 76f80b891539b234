import java.io.IOException;
import java.lang.reflect.Constructor;
import java.lang.reflect.Field;
import java.lang.reflect.Method;
import java.lang.reflect.Modifier;
import java.nio.file.Files;
import java.nio.file.Path;
import java.util.ArrayList;
import java.util.List;
import java.util.Set;
import java.util.TreeSet;
import java.util.regex.Matcher;
import java.util.regex.Pattern;

/** The rules of LANGUAGE.md that can be read off the source and the class; main is given the source's path. */
public final class LanguageTest {
    private static final String[] FORBIDDEN = {
        "\\bthrow\\b", "\\btry\\b", "\\bcatch\\b", "\\bsynchronized\\b", "\\bassert\\b", "->", "::", "\\bimport\\b", "\\bpackage\\b",
        "\\bdouble\\b", "\\bfloat\\b", "\\bObject\\b", "Exact\\b", "\\bHashMap\\b", "\\bstatic\\s*\\{", "\\bhashCode\\b", "\\bvar\\b",
    };

    public static void main(String[] args) throws IOException {
        String source = Files.readString(Path.of(args[0]));
        String code = source.replaceAll("(?s)/\\*.*?\\*/", "").replaceAll("//[^\n]*", "");
        for (String forbidden : FORBIDDEN) {
            Checks.due("no " + forbidden, 0, Pattern.compile(forbidden).matcher(code).find() ? 1 : 0);
        }
        for (int i = 0; i < source.length(); i++) {
            if (source.charAt(i) > 126) {
                Checks.due("plain signs alone, at " + i, 0, 1);
            }
        }
        Checks.due("a dozen classes", 1, count(code, "\\bclass \\w+") <= 12 ? 1 : 0);
        Checks.due("package-visible statics are constants", 0, count(code, "\\n    static (?!final)"));
        methodsAreShort(code);
        face();
        Checks.finish();
    }

    private static int count(String code, String pattern) {
        Matcher m = Pattern.compile(pattern).matcher(code);
        int n = 0;
        while (m.find()) {
            n++;
        }
        return n;
    }

    private static void methodsAreShort(String code) {
        String[] lines = code.split("\n");
        for (int i = 0; i < lines.length; i++) {
            Matcher m = Pattern.compile("^( +)[a-zA-Z][^=;]*\\([^;]*\\) \\{$").matcher(lines[i]);
            if (!m.matches() || m.group(1).length() > 8 || lines[i].matches(" *(if|for|while|switch|else|do)\\b.*")) {
                continue;
            }
            int end = i;
            while (end < lines.length && !lines[end].equals(m.group(1) + "}")) {
                end++;
            }
            Checks.due("short: " + lines[i].trim(), 1, end - i <= 60 ? 1 : 0);
            Checks.due("seven parameters: " + lines[i].trim(), 1, lines[i].split(",").length <= 7 ? 1 : 0);
        }
    }

    private static void face() {
        Set<String> publicNames = new TreeSet<>();
        for (Method m : TallBins.class.getDeclaredMethods()) {
            if (Modifier.isPublic(m.getModifiers())) {
                publicNames.add(m.getName());
            } else {
                Checks.due("private: " + m, 1, Modifier.isPrivate(m.getModifiers()) ? 1 : 0);
            }
        }
        Checks.due("methods of the face", 42 - 1, publicNames.size());
        for (Field f : TallBins.class.getDeclaredFields()) {
            boolean fine = f.getName().equals("NONE") || Modifier.isPrivate(f.getModifiers());
            Checks.due("private: " + f, 1, fine ? 1 : 0);
        }
        Constructor<?>[] constructors = TallBins.class.getDeclaredConstructors();
        Checks.due("one constructor", 1, constructors.length);
        Checks.due("public and final", Modifier.PUBLIC | Modifier.FINAL, TallBins.class.getModifiers());
        List<Class<?>> classes = new ArrayList<>(List.of(TallBins.class.getDeclaredClasses()));
        classes.add(TallBins.class);
        for (Class<?> c : classes) {
            int fields = 0;
            for (Field f : c.getDeclaredFields()) {
                boolean isStatic = Modifier.isStatic(f.getModifiers());
                fields += isStatic ? 0 : 1;
                Checks.due("no changing static: " + f, 1, !isStatic || Modifier.isFinal(f.getModifiers()) ? 1 : 0);
            }
            Checks.due("some twenty fields: " + c, 1, fields <= 20 ? 1 : 0);
            for (Method m : c.getDeclaredMethods()) {
                if (c != TallBins.class || Modifier.isPrivate(m.getModifiers())) {
                    Checks.due("no name of the face: " + m, 0, publicNames.contains(m.getName()) ? 1 : 0);
                }
            }
        }
    }
}
