import java.lang.reflect.Constructor;
import java.lang.reflect.Field;
import java.lang.reflect.Method;
import java.lang.reflect.Modifier;
import java.nio.file.Files;
import java.nio.file.Path;
import java.util.Set;
import java.util.TreeSet;
import java.util.regex.Matcher;
import java.util.regex.Pattern;

/** The document's face and what of LANGUAGE.md can be seen by looking at the class and its text. */
public final class FaceTest {
    private static final String[] FACE = {
        "cards(int)", "thread(int,int,int)", "way(int,int)", "flip(int)", "pack(int,int)",
        "about(int,int)", "at(int,int)", "pick(int,int)", "packs(int,int,int,int)", "unweave()",
        "turn(int,int)", "shows(int,int,boolean)", "shown(int,int,boolean)", "slant(int,int)",
        "longest(int)", "many(int,int)", "repeat()", "is(int)", "rows()", "worst(boolean)",
        "going(int,int)", "evens(int)", "paint(int,int,int)", "rule(int,int)", "unlike()",
        "idles(int)", "turning(int,int)", "behind(int)", "weave()", "threading(int,int)",
        "quarrel(int)", "wrongs(int)", "wrong(int,int)", "count(int)"
    };
    private static final String[] FORBIDDEN = {
        "\\bthrows?\\b", "\\btry\\b", "\\bcatch\\b", "\\bsynchronized\\b", "\\bassert\\b", "->", "::",
        "\\bprotected\\b", "Exact\\b", "\\bRandom\\b", "\\bSystem\\.(?!arraycopy)", "\\bpackage\\b",
        "\\bstatic\\s*\\{", "\\bThread\\b", "\\bhashCode\\b", "\\btoString\\b", "[^\\x00-\\x7f]",
        "\\b(Integer|Long|Math)\\.[A-Z]"
    };

    public static void main(String[] args) throws Exception {
        checkMethods();
        checkFieldsAndConstructor();
        checkSizes(TurnedCards.class);
        for (Class<?> inside : TurnedCards.class.getDeclaredClasses()) {
            checkSizes(inside);
        }
        Due.holds("LANGUAGE.md: some twelve classes at most", TurnedCards.class.getDeclaredClasses().length < 12);
        checkText(Files.readString(Path.of("src/main/java/TurnedCards.java")));
        Due.end();
    }

    private static void checkMethods() {
        Set<String> want = new TreeSet<>(Set.of(FACE));
        Set<String> names = new TreeSet<>();
        for (String call : FACE) {
            names.add(call.substring(0, call.indexOf('(')));
        }
        Set<String> got = new TreeSet<>();
        for (Method m : TurnedCards.class.getDeclaredMethods()) {
            if (Modifier.isPublic(m.getModifiers())) {
                got.add(signature(m));
                Due.holds(m + " answers an int and is not static",
                        m.getReturnType() == int.class && !Modifier.isStatic(m.getModifiers()));
            } else {
                Due.holds(m + " is private", Modifier.isPrivate(m.getModifiers()));
                Due.holds(m + " has a name of its own", !names.contains(m.getName()));
            }
        }
        Due.holds("the public methods are " + want + ": " + got, got.equals(want));
        for (Class<?> inside : TurnedCards.class.getDeclaredClasses()) {
            Due.holds(inside + " is static", Modifier.isStatic(inside.getModifiers()));
            for (Method m : inside.getDeclaredMethods()) {
                Due.holds(m + " has a name of its own", !names.contains(m.getName()));
            }
        }
    }

    private static String signature(Method m) {
        StringBuilder s = new StringBuilder(m.getName()).append('(');
        for (Class<?> p : m.getParameterTypes()) {
            s.append(s.charAt(s.length() - 1) == '(' ? "" : ",").append(p.getName());
        }
        return s.append(')').toString();
    }

    private static void checkFieldsAndConstructor() {
        Set<String> constants = new TreeSet<>();
        for (Field f : TurnedCards.class.getDeclaredFields()) {
            if (Modifier.isPublic(f.getModifiers())) {
                constants.add(f.getName());
            } else {
                Due.holds(f + " is private", Modifier.isPrivate(f.getModifiers()));
            }
            Due.holds(f + " is final if it is static",
                    !Modifier.isStatic(f.getModifiers()) || Modifier.isFinal(f.getModifiers()));
        }
        Due.holds("the constants are those of the document: " + constants,
                constants.equals(Set.of("UNKNOWN", "BAD", "STATE", "FULL", "NONE")));
        Due.row("constants", new int[] {TurnedCards.UNKNOWN, TurnedCards.BAD, TurnedCards.STATE,
            TurnedCards.FULL, TurnedCards.NONE}, -1, -2, -3, -4, -99);
        Constructor<?>[] made = TurnedCards.class.getDeclaredConstructors();
        Due.holds("there is one constructor, public and without arguments", made.length == 1
                && Modifier.isPublic(made[0].getModifiers()) && made[0].getParameterCount() == 0);
        Due.holds("the class is public and final", Modifier.isPublic(TurnedCards.class.getModifiers())
                && Modifier.isFinal(TurnedCards.class.getModifiers()));
    }

    private static void checkSizes(Class<?> one) {
        int fields = 0;
        for (Field f : one.getDeclaredFields()) {
            fields += Modifier.isStatic(f.getModifiers()) ? 0 : 1;
        }
        Due.holds("LANGUAGE.md: some twenty fields at most, " + one + " has " + fields, fields <= 20);
        for (Method m : one.getDeclaredMethods()) {
            Due.holds("LANGUAGE.md: seven parameters at most, " + m, m.getParameterCount() <= 7);
        }
    }

    /** A method begins with a line that ends in ') {' and ends with the next brace that stands as far in. */
    private static void checkLengths(String text) {
        Matcher m = Pattern.compile("(?m)^( {4}| {8})(?:\\w[^\n;]*)\\) \\{\n((?s:.*?))^\\1\\}$").matcher(text);
        int methods = 0;
        while (m.find()) {
            methods++;
            long lines = m.group().lines().count();
            Due.holds("LANGUAGE.md: some sixty lines at most, " + m.group().lines().findFirst().orElse(""),
                    lines <= 60);
        }
        Due.holds("methods were found: this", methods >= FACE.length);
    }

    private static void checkText(String text) {
        checkLengths(text);
        String code = text.replaceAll("(?s)/\\*.*?\\*/", "").replaceAll("//[^\n]*", "");
        for (String word : FORBIDDEN) {
            Matcher m = Pattern.compile(word).matcher(code);
            Due.holds("LANGUAGE.md: the program is without " + word, !m.find());
        }
        Matcher imports = Pattern.compile("import\\s+([\\w.]+);").matcher(code);
        while (imports.find()) {
            Due.holds("LANGUAGE.md: import of " + imports.group(1),
                    Set.of("java.util.Arrays", "java.util.ArrayList", "java.util.List").contains(imports.group(1)));
        }
    }
}
