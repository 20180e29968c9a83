import java.io.IOException;
import java.lang.reflect.Constructor;
import java.lang.reflect.Executable;
import java.lang.reflect.Field;
import java.lang.reflect.Method;
import java.lang.reflect.Modifier;
import java.nio.file.Files;
import java.nio.file.Path;
import java.util.ArrayList;
import java.util.List;
import java.util.Set;
import java.util.TreeSet;
import java.util.regex.Matcher;
import java.util.regex.Pattern;

/** The rules of LANGUAGE.md that a machine can look at: the face, and what the source must not hold. */
public final class LanguageTest {
    private static final Set<String> FACE = Set.of(
        "int type(long,int)", "int clear()", "int moor()", "int cell(int,int)", "int walker(int,int)",
        "int passes(int,int)", "int days(int)", "int now(int)", "int anew()", "int steps(int,int)",
        "int way(int,int,int)", "int stones(int,int)", "int joined(int,int)", "int likes(int)", "int byTurns(int,int)",
        "int apart(int,int)", "int rate(int,int)", "int keep(int)", "int back(int)", "int count(int)", "long trace()");
    private static final Set<String> CONSTANTS = Set.of("BAD", "STATE", "FULL", "NONE", "NO");

    private static int wrong = 0;

    public static void main(String[] args) throws IOException {
        face();
        for (Class<?> inside : MoorStones.class.getDeclaredClasses()) {
            inside(inside);
        }
        if (MoorStones.class.getDeclaredClasses().length > 11) {
            tell("11: more than twelve classes");
        }
        source(Files.readString(Path.of(args[0])));
        System.out.println(wrong == 0 ? "the rules that were looked at are kept" : wrong + " rules are broken");
        if (wrong != 0) {
            System.exit(1);
        }
    }

    private static void tell(String what) {
        wrong++;
        System.out.println("rule " + what);
    }

    private static void face() {
        if (MoorStones.class.getModifiers() != (Modifier.PUBLIC | Modifier.FINAL)) {
            tell("1: the class is not public and final alone");
        }
        Set<String> methods = new TreeSet<>();
        for (Method m : MoorStones.class.getDeclaredMethods()) {
            if (Modifier.isPublic(m.getModifiers())) {
                methods.add(signature(m));
            } else {
                hidden(m.getModifiers(), m.toString());
                namedApart(m);
            }
        }
        if (!methods.equals(FACE)) {
            tell("1: the public methods are " + methods);
        }
        Set<String> fields = new TreeSet<>();
        for (Field f : MoorStones.class.getDeclaredFields()) {
            if (Modifier.isPublic(f.getModifiers())) {
                fields.add(f.getName());
            } else {
                hidden(f.getModifiers(), f.toString());
            }
        }
        if (!fields.equals(CONSTANTS)) {
            tell("1: the public fields are " + fields);
        }
        Constructor<?>[] made = MoorStones.class.getDeclaredConstructors();
        if (made.length != 1 || made[0].getParameterCount() != 0 || !Modifier.isPublic(made[0].getModifiers())) {
            tell("1: not the one public constructor");
        }
        fieldsOf(MoorStones.class);
    }

    private static String signature(Method m) {
        StringBuilder text = new StringBuilder(m.getReturnType().getName() + " " + m.getName() + "(");
        for (Class<?> type : m.getParameterTypes()) {
            text.append(text.charAt(text.length() - 1) == '(' ? "" : ",").append(type.getName());
        }
        return text + ")";
    }

    private static void hidden(int modifiers, String what) {
        if (!Modifier.isPrivate(modifiers)) {
            tell("1: not private: " + what);
        }
    }

    private static void namedApart(Method m) {
        if (FACE.stream().anyMatch(f -> f.contains(" " + m.getName() + "("))) {
            tell("1: has the name of a public one: " + m);
        }
    }

    private static void inside(Class<?> inside) {
        int modifiers = inside.getModifiers();
        if (Modifier.isPublic(modifiers) || Modifier.isProtected(modifiers) || !Modifier.isStatic(modifiers)) {
            tell("1, 2: " + inside);
        }
        for (Method m : inside.getDeclaredMethods()) {
            namedApart(m);
            fewParameters(m);
        }
        for (Constructor<?> c : inside.getDeclaredConstructors()) {
            fewParameters(c);
        }
        fieldsOf(inside);
    }

    private static void fewParameters(Executable e) {
        if (e.getParameterCount() > 7) {
            tell("11: more than seven parameters: " + e);
        }
    }

    private static void fieldsOf(Class<?> type) {
        int fields = 0;
        for (Field f : type.getDeclaredFields()) {
            if (!Modifier.isStatic(f.getModifiers())) {
                fields++;
            } else if (!Modifier.isFinal(f.getModifiers())) {
                tell("5: static and not final: " + f);
            }
        }
        if (fields > 20) {
            tell("11: more than twenty fields: " + type);
        }
    }

    private static void source(String source) {
        String code = source.replaceAll("(?s)/\\*.*?\\*/", "").replaceAll("//[^\n]*", "");
        absent(code, "6", "\\b(throw|throws|try|catch|synchronized|assert|finally)\\b");
        absent(code, "2", "->|::|\\brecord\\b");
        absent(code, "4", "\\bimport\\b|\\bjava\\.|\\bpackage\\b|\\bprintln\\b|\\bThread\\b");
        absent(code, "4", "\\b(System|Arrays|List|Objects|Character|Boolean)\\.(?!arraycopy\\b)");
        absent(code, "4", "\\w+Exact\\b");
        absent(code, "6", "\\b(hashCode|toString|getClass)\\b");
        absent(code, "9", "while \\(true\\)|for \\(;;\\)|for \\([^;]*;\\s*;");
        absent(code, "10", "\" \\+|\\+ \"");
        absent(code, "4", "[^\\n\\x20-\\x7e]");
        for (String line : code.split("\n")) {
            if (line.contains("new ") && !line.matches(" +[a-zA-Z]+ = new [A-Za-z]+(\\(\\)|\\[[^\\]]+\\]);")) {
                tell("12: made elsewhere than for a field: " + line);
            }
        }
        shortMethods(code);
    }

    private static void absent(String code, String rule, String pattern) {
        Matcher m = Pattern.compile(pattern).matcher(code);
        while (m.find()) {
            tell(rule + ": " + code.substring(Math.max(0, m.start() - 20), Math.min(code.length(), m.end() + 20)));
        }
    }

    /** A method opens with a line that ends in ") {" four or eight blanks in, and ends at the next } as far in. */
    private static void shortMethods(String code) {
        List<String> lines = new ArrayList<>(List.of(code.split("\n")));
        for (int i = 0; i < lines.size(); i++) {
            String line = lines.get(i);
            if (line.matches("( {4}| {8})[a-zA-Z].*\\) \\{") && !line.matches(" +(if|for|while|switch) .*")) {
                String end = line.replaceAll("\\S.*", "") + "}";
                int length = lines.subList(i, lines.size()).indexOf(end);
                if (length < 0 || length > 60) {
                    tell("11: a long method: " + line);
                }
            }
        }
    }
}
