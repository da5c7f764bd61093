import java.io.IOException;
import java.lang.reflect.Constructor;
import java.lang.reflect.Field;
import java.lang.reflect.Method;
import java.lang.reflect.Modifier;
import java.nio.charset.StandardCharsets;
import java.nio.file.Files;
import java.nio.file.Path;
import java.util.Arrays;
import java.util.HashSet;
import java.util.List;
import java.util.Set;
import java.util.TreeSet;
import java.util.regex.Matcher;
import java.util.regex.Pattern;

/** The rules of LANGUAGE.md that a look at the source and the classes can tell; and that no call throws by itself. */
public final class LanguageTest {
    private static final Path SOURCE = Path.of("src/main/java/GrainBins.java");
    private static final Set<String> FACE = Set.of("sign(int)int", "end(int)boolean", "land()int",
        "grade(int,int)int", "pair(int,int)int", "bin(int,int)int", "layer(int,int,int)int",
        "load(int,int,int)int", "draw(int,int)int", "move(int,int,int)int", "turn(int)int", "fumes(int,int)int",
        "days(int)int", "price(int,int)int", "sells()int", "value(int)int", "all()int", "mixed(int)int",
        "would(int,int,int)int", "worst()int", "dear()int", "best(int,int)int", "lays()int", "few()int",
        "room(int)int", "takers(int)int", "bottom(int)int", "reaches(int,int)int", "serves()int", "picks()int",
        "empties(int)int", "then(int)int", "falls(int,int)int", "old()int", "cures(int,int)int", "undo()int",
        "keeps()int", "back()int", "written(int)int", "count(int)int", "row(int)long");
    private static int wrong = 0;

    public static void main(String[] args) throws IOException, ReflectiveOperationException {
        face();
        Set<String> names = new HashSet<>();
        FACE.forEach(f -> names.add(f.substring(0, f.indexOf('('))));
        Class<?>[] inside = GrainBins.class.getDeclaredClasses();
        check("at most twelve classes", inside.length <= 11);
        check(GrainBins.class, names);
        for (Class<?> c : inside) {
            check(c + " is static, not public", Modifier.isStatic(c.getModifiers())
                && !Modifier.isPublic(c.getModifiers()) && !Modifier.isProtected(c.getModifiers()));
            check(c, names);
        }
        words(Files.readString(SOURCE, StandardCharsets.ISO_8859_1));
        nothingThrown();
        System.out.println(wrong + " rules broken");
        if (wrong != 0) {
            System.exit(1);
        }
    }

    private static void check(String rule, boolean holds) {
        if (!holds) {
            wrong++;
            System.out.println("broken: " + rule);
        }
    }

    private static boolean isPrivate(int modifiers) {
        return Modifier.isPrivate(modifiers);
    }

    private static void face() {
        Set<String> got = new TreeSet<>();
        for (Method m : GrainBins.class.getDeclaredMethods()) {
            if (!isPrivate(m.getModifiers())) {
                StringBuilder said = new StringBuilder();
                for (Class<?> p : m.getParameterTypes()) {
                    said.append(said.length() > 0 ? "," : "").append(p);
                }
                got.add(m.getName() + "(" + said + ")" + m.getReturnType());
                check(m + " is public and not static", Modifier.isPublic(m.getModifiers())
                    && !Modifier.isStatic(m.getModifiers()));
            }
        }
        check("the face is the document's: " + got, got.equals(new TreeSet<>(FACE)));
        check("the class is public and final", Modifier.isPublic(GrainBins.class.getModifiers())
            && Modifier.isFinal(GrainBins.class.getModifiers()));
        for (Field f : GrainBins.class.getDeclaredFields()) {
            check(f + " is private, or NONE", isPrivate(f.getModifiers()) || f.getName().equals("NONE"));
        }
        Constructor<?>[] made = GrainBins.class.getDeclaredConstructors();
        check("one constructor", made.length == 1 && made[0].getParameterCount() == 0);
    }

    private static void check(Class<?> c, Set<String> names) {
        int fields = 0;
        for (Field f : c.getDeclaredFields()) {
            boolean fixed = Modifier.isStatic(f.getModifiers());
            check(f + " is final", !fixed || Modifier.isFinal(f.getModifiers()));
            check(f + " is a constant", !fixed || f.getType().isPrimitive() || f.getType() == String.class);
            fields += fixed ? 0 : 1;
        }
        check(c + " has at most twenty fields", fields <= 20);
        for (Method m : c.getDeclaredMethods()) {
            check(m + " is not named as one of the face", !isPrivate(m.getModifiers()) || !names.contains(m.getName()));
            check(m + " takes at most seven", m.getParameterCount() <= 7);
        }
    }

    private static void words(String source) {
        String code = source.replaceAll("(?s)/\\*.*?\\*/", "").replaceAll("//[^\n]*", "");
        for (String word : List.of("catch", "try", "finally", "synchronized", "assert", "instanceof", "package",
            "MAX_VALUE", "MIN_VALUE", "->", "::", "\"", "@", "String", "Object", "System", "double", "float", "List")) {
            check("no " + word, !code.contains(word));
        }
        check("one import", count(code, "\\bimport\\b") == 1
            && code.contains("import java.util.NoSuchElementException;"));
        Matcher calls = Pattern.compile("\\b(Math|Integer|Long|Arrays)\\.(\\w+)").matcher(code);
        while (calls.find()) {
            check("in the library: " + calls.group(), Set.of("Math.max", "Math.min", "Integer.bitCount")
                .contains(calls.group()));
        }
        check("one throw", count(code, "\\bthrow\\b") == 1
            && code.contains("throw new NoSuchElementException();"));
        check("while has no counter", !code.contains("while"));
        source.chars().forEach(s -> check("sign " + s, s == '\n' || s >= ' ' && s < 127));
        lengths(source);
    }

    private static int count(String code, String pattern) {
        return (int) Pattern.compile(pattern).matcher(code).results().count();
    }

    /** Methods stay short: a method begins with a brace at the end of a line and ends with one at its depth. */
    private static void lengths(String source) {
        String[] lines = source.split("\n");
        for (int i = 0; i < lines.length; i++) {
            String indent = lines[i].replaceAll("\\S.*", "");
            if (lines[i].endsWith(") {") && (indent.length() == 4 || indent.length() == 8) && !lines[i].contains("= ")) {
                int end = Arrays.asList(lines).subList(i, lines.length).indexOf(indent + "}");
                check("short: " + lines[i], end >= 0 && end <= 60);
            }
            check("narrow: " + lines[i], lines[i].length() <= 120);
        }
    }

    /** Every call with numbers from all over, in states of all kinds; row alone may throw. */
    private static void nothingThrown() throws ReflectiveOperationException {
        int[] odd = {Integer.MIN_VALUE, -1000, -6, -2, -1, 0, 1, 2, 3, 5, 6, 7, 8, 20, 99, 100, 999, 1000, 9999,
            Integer.MAX_VALUE};
        String[] lines = {"", Due.YARD, "b0c99;b1c99;b2c99;b3c99;b4c99;b5c99;x01;l2399"};
        for (String told : lines) {
            Due d = Due.landed("throws", told);
            for (int i = 0; i < 40; i++) {
                d.x.load(i % 6, 1 + i % 4, i / 7);
            }
            for (Method m : GrainBins.class.getDeclaredMethods()) {
                if (Modifier.isPublic(m.getModifiers()) && !m.getName().equals("row") && !m.getName().equals("land")) {
                    callWithAll(d.x, m, odd, new Object[m.getParameterCount()], 0);
                }
            }
        }
    }

    private static void callWithAll(GrainBins x, Method m, int[] odd, Object[] args, int at)
        throws ReflectiveOperationException {
        if (at == args.length) {
            m.invoke(x, args);
            return;
        }
        for (int v : odd) {
            args[at] = v;
            callWithAll(x, m, odd, args, at + 1);
        }
    }
}
