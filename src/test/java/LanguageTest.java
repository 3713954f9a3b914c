import java.io.IOException;
import java.lang.reflect.Constructor;
import java.lang.reflect.Field;
import java.lang.reflect.Method;
import java.lang.reflect.Modifier;
import java.nio.charset.StandardCharsets;
import java.nio.file.Files;
import java.nio.file.Path;
import java.util.Set;
import java.util.TreeSet;
import java.util.regex.Matcher;
import java.util.regex.Pattern;

/** The face as the document writes it, and those rules of LANGUAGE.md that can be seen from outside or in the text. */
public final class LanguageTest {
    private static final Checks checks = new Checks();
    private static final Set<String> FACE = Set.of(
        "int type(long)", "int read()", "int fault(boolean)", "int place(int,int,int)", "int swap(int,int)",
        "int late(int,int)", "boolean now(int)", "int step()", "int repair()", "int undo()", "int count(int)",
        "int door(int,int)", "int row(int,int)", "int truck(int,int)", "int carton(int,int)", "int staged(int,int)",
        "int at(int,int)", "int travel(int,int)", "int would(int,int,int)", "int delayed(int,int)", "int roomy(int)",
        "int least()", "int moves(boolean)", "boolean image(int)", "boolean again(int)");

    public static void main(String[] args) throws IOException {
        face();
        classesInside();
        String source = Files.readString(Path.of("src/main/java/DockTurns.java"), StandardCharsets.ISO_8859_1);
        words(source);
        lengths(source);
        checks.end();
    }

    private static String signature(Method m) {
        StringBuilder s = new StringBuilder(m.getReturnType().getName()).append(' ').append(m.getName()).append('(');
        for (int i = 0; i < m.getParameterCount(); i++) {
            s.append(i == 0 ? "" : ",").append(m.getParameterTypes()[i].getName());
        }
        return s.append(')').toString();
    }

    private static void face() {
        Class<?> c = DockTurns.class;
        checks.due("public and final", c.getModifiers(), Modifier.PUBLIC | Modifier.FINAL);
        Set<String> open = new TreeSet<>();
        Set<String> openNames = new TreeSet<>();
        for (Method m : c.getDeclaredMethods()) {
            if (Modifier.isPublic(m.getModifiers())) {
                open.add(signature(m));
                openNames.add(m.getName());
                checks.due("modifiers of " + m, m.getModifiers(), Modifier.PUBLIC);
            }
        }
        checks.due("the public methods " + open, open.equals(FACE), true);
        for (Class<?> each : allClasses()) {
            for (Method m : each.getDeclaredMethods()) {
                boolean isFace = each == c && Modifier.isPublic(m.getModifiers());
                checks.due("a method named as one of the face: " + m, !isFace && openNames.contains(m.getName()), false);
                checks.due("private or of the face: " + m,
                    each != c || isFace || Modifier.isPrivate(m.getModifiers()), true);
                checks.due("parameters of " + m, m.getParameterCount() <= 7, true);
            }
        }
        for (Field f : c.getDeclaredFields()) {
            boolean isNone = f.getName().equals("NONE");
            checks.due("private: " + f, isNone || Modifier.isPrivate(f.getModifiers()), true);
        }
        checks.due("constructors", c.getDeclaredConstructors().length, 1);
        for (Constructor<?> made : c.getDeclaredConstructors()) {
            checks.due("public constructor", made.getModifiers(), Modifier.PUBLIC);
            checks.due("of no parameters", made.getParameterCount(), 0);
        }
        checks.due("NONE", DockTurns.NONE, -1);
    }

    private static Set<Class<?>> allClasses() {
        Set<Class<?>> all = new java.util.LinkedHashSet<>(Set.of(DockTurns.class.getDeclaredClasses()));
        all.add(DockTurns.class);
        return all;
    }

    private static void classesInside() {
        checks.due("some twelve classes", allClasses().size() <= 12, true);
        for (Class<?> c : allClasses()) {
            boolean isInside = c != DockTurns.class;
            checks.due("static: " + c, !isInside || Modifier.isStatic(c.getModifiers()), true);
            checks.due("not public: " + c, isInside && Modifier.isPublic(c.getModifiers()), false);
            int fields = 0;
            for (Field f : c.getDeclaredFields()) {
                boolean isStatic = Modifier.isStatic(f.getModifiers());
                fields += isStatic ? 0 : 1;
                checks.due("final if static: " + f, !isStatic || Modifier.isFinal(f.getModifiers()), true);
            }
            checks.due("some twenty fields: " + c + " has " + fields, fields <= 20, true);
        }
    }

    private static String bare(String source) {
        return source.replaceAll("(?s)/\\*.*?\\*/", " ").replaceAll("//[^\n]*", " ").replaceAll("\"[^\"\n]*\"", "\"\"");
    }

    private static void words(String source) {
        for (char sign : source.toCharArray()) {
            checks.due("a sign of 10 to 126", sign == '\n' || sign >= 32 && sign < 127, true);
        }
        String code = bare(source);
        String[] ruledOut = {
            "->", "::", "\\bfinally\\b", "\\bsynchronized\\b", "\\bassert\\b", "\\bpackage\\b", "Exact\\b", "\\btry\\b",
            "\\bcatch\\b", "\\bstatic\\s*\\{", "\\bprotected\\b", "\\bhashCode\\b", "\\btoString\\b", "\\bequals\\b",
            "\\bvolatile\\b", "\\bvar\\b", "\\bdouble\\b", "\\bfloat\\b", "\\bObject\\b", "\\bThread\\b", "\\bgetMessage\\b",
            "\"\\s*\\+", "\\+\\s*\"", "\\bimport\\s+static\\b", "\\bnull\\b"};
        for (String rule : ruledOut) {
            checks.due("ruled out: " + rule, Pattern.compile(rule).matcher(code).find(), false);
        }
        only(code, "import\\s+([\\w.*]+)", Set.of("java.util.Arrays", "java.util.NoSuchElementException"));
        only(code, "\\bSystem\\.(\\w+)", Set.of("arraycopy"));
        only(code, "\\bArrays\\.(\\w+)", Set.of("fill"));
        only(code, "\\bMath\\.(\\w+)", Set.of("max", "min", "abs"));
        only(code, "\\bthrow\\s+new\\s+(\\w+)", Set.of("NoSuchElementException"));
        only(code, "\\bnew\\s+(\\w+)", Set.of("NoSuchElementException", "int", "byte", "Text", "Reading", "Dock", "Plan",
            "Run", "Acts", "Image"));
    }

    private static void only(String code, String form, Set<String> allowed) {
        Matcher m = Pattern.compile(form).matcher(code);
        while (m.find()) {
            checks.due("allowed: " + m.group(), allowed.contains(m.group(1)), true);
        }
    }

    /** By the layout of this file: a method begins with a line that ends in ") {" or "Exception {" and ends as deep as it began. */
    private static void lengths(String source) {
        String[] lines = source.split("\n");
        for (int i = 0; i < lines.length; i++) {
            Matcher m = Pattern.compile("^( {4}| {8})(?! )[\\w<].*\\)[\\w ]* \\{$").matcher(lines[i]);
            if (m.matches() && !lines[i].matches("\\s*(if|for|while|switch|else)\\b.*")) {
                int end = i;
                while (end < lines.length && !lines[end].equals(m.group(1) + "}")) {
                    end++;
                }
                checks.due("lines of " + lines[i].trim(), end - i + 1 <= 60, true);
            }
        }
    }
}
