import java.io.IOException;
import java.lang.reflect.Field;
import java.lang.reflect.Member;
import java.lang.reflect.Method;
import java.lang.reflect.Modifier;
import java.nio.file.Files;
import java.nio.file.Path;
import java.util.Set;
import java.util.TreeSet;
import java.util.regex.Matcher;
import java.util.regex.Pattern;

/** The public face of the document, no more and no less, and those rules of LANGUAGE.md that a search can look for. */
public final class FaceTest {
    private static final Path SOURCE = Path.of("src/main/java/CommutingWords.java");
    private static final Path DOCUMENT = Path.of("../shared/DOC.md");
    private static final int LONGEST_METHOD = 60;

    private static int wrong;

    private static void due(String what, boolean holds) {
        if (!holds) {
            wrong++;
            System.out.println(what);
        }
    }

    public static void main(String[] args) throws IOException {
        face();
        source();
        methods();
        System.out.println(wrong == 0 ? "the face and the language are as due" : wrong + " wrong");
        if (wrong > 0) {
            System.exit(1);
        }
    }

    private static void face() throws IOException {
        Set<String> promised = new TreeSet<>();
        Matcher line = Pattern.compile("(?m)^    public (int|long) (\\w+)\\(([^)]*)\\);").matcher(Files.readString(DOCUMENT));
        while (line.find()) {
            String types = line.group(3).replaceAll(" \\w+(, |$)", "$1").replace(" ", "");
            promised.add(line.group(1) + " " + line.group(2) + "(" + types + ")");
        }
        due("the document has 40 methods, found " + promised.size(), promised.size() == 40);
        Set<String> there = new TreeSet<>();
        Set<String> privates = new TreeSet<>();
        Set<String> publics = new TreeSet<>();
        for (Method m : CommutingWords.class.getDeclaredMethods()) {
            if (Modifier.isPrivate(m.getModifiers())) {
                privates.add(m.getName());
                continue;
            }
            due("not public: " + m, Modifier.isPublic(m.getModifiers()) && !Modifier.isStatic(m.getModifiers()));
            publics.add(m.getName());
            StringBuilder types = new StringBuilder();
            for (Class<?> type : m.getParameterTypes()) {
                types.append(types.length() == 0 ? "" : ",").append(type.getName());
            }
            there.add(m.getReturnType().getName() + " " + m.getName() + "(" + types + ")");
        }
        due("face: " + there + " instead of " + promised, there.equals(promised));
        for (Class<?> inner : CommutingWords.class.getDeclaredClasses()) {
            due("not static: " + inner, Modifier.isStatic(inner.getModifiers()));
            due("visible: " + inner, !Modifier.isPublic(inner.getModifiers()) && !Modifier.isProtected(inner.getModifiers()));
            for (Method m : inner.getDeclaredMethods()) {
                privates.add(m.getName());
            }
            fields(inner);
        }
        privates.retainAll(publics);
        due("names used twice: " + privates, privates.isEmpty());
        fields(CommutingWords.class);
        due("final", Modifier.isFinal(CommutingWords.class.getModifiers()));
        due("one constructor", CommutingWords.class.getDeclaredConstructors().length == 1);
    }

    private static void fields(Class<?> type) {
        Set<String> shown = new TreeSet<>();
        int own = 0;
        for (Field f : type.getDeclaredFields()) {
            if (f.isSynthetic()) {
                continue;
            }
            due("static and not final: " + f, !isStatic(f) || Modifier.isFinal(f.getModifiers()));
            own += isStatic(f) ? 0 : 1;
            if (!Modifier.isPrivate(f.getModifiers())) {
                shown.add(f.getName());
            }
        }
        due("too many fields in " + type, own <= 20);
        Set<String> constants = type == CommutingWords.class
            ? Set.of("BAD_INDEX", "BAD_VALUE", "NOT_POSSIBLE", "FULL", "NONE") : Set.of();
        due("fields of " + type + ": " + shown, shown.equals(constants));
    }

    private static boolean isStatic(Member m) {
        return Modifier.isStatic(m.getModifiers());
    }

    private static void source() throws IOException {
        String code = Files.readString(SOURCE);
        due("a sign outside 1 to 127", code.chars().allMatch(c -> c > 0 && c < 128));
        String plain = code.replaceAll("(?s)/\\*.*?\\*/", "").replaceAll("//[^\n]*", "");
        String[] ruledOut = {
            "\\bthrow", "\\btry\\b", "\\bcatch\\b", "\\bsynchronized\\b", "\\bassert\\b", "->", "::", "\\bpackage\\b",
            "\\bhashCode\\b", "\\btoString\\b", "Exact\\b", "\\bSystem\\.(?!arraycopy)", "\\bthis::", "\\bvar\\b",
            "\\bdouble\\b", "\\bfloat\\b", "\\bObject\\b", "\\bRandom\\b", "\\bThread\\b", "\\bnull\\b", "static \\{"
        };
        for (String pattern : ruledOut) {
            Matcher m = Pattern.compile(pattern).matcher(plain);
            due("ruled out: " + pattern, !m.find());
        }
        Matcher imports = Pattern.compile("(?m)^import (.*);").matcher(plain);
        while (imports.find()) {
            due("import " + imports.group(1), imports.group(1).equals("java.util.Arrays"));
        }
    }

    /** Methods stay short and take at most seven parameters; found by their heads and closing lines. */
    private static void methods() throws IOException {
        Pattern head = Pattern.compile("^( {4}| {8})(?! )[\\w\\[\\] ]+\\(([^()]*)\\) \\{$");
        String indent = null;
        int begun = 0;
        int number = 0;
        int found = 0;
        for (String line : Files.readAllLines(SOURCE)) {
            number++;
            Matcher m = head.matcher(line);
            if (indent == null && m.matches() && !line.trim().startsWith("if") && !line.trim().startsWith("for")) {
                indent = m.group(1);
                begun = number;
                found++;
                due("too many parameters in line " + number, m.group(2).split(",").length <= 7);
            } else if (indent != null && line.equals(indent + "}")) {
                due("long method at line " + begun, number - begun < LONGEST_METHOD);
                indent = null;
            }
        }
        due("methods found: " + found, found > 60);
    }
}
