import java.lang.reflect.Constructor;
import java.lang.reflect.Field;
import java.lang.reflect.Method;
import java.lang.reflect.Modifier;
import java.nio.file.Files;
import java.nio.file.Path;
import java.util.ArrayList;
import java.util.List;
import java.util.Set;
import java.util.TreeSet;
import java.util.regex.Matcher;
import java.util.regex.Pattern;

/** The face of the class, and of LANGUAGE.md what can be seen from the text. Run from the project's root. */
public final class LanguageTest {
    private static final Due due = new Due();
    private static final String FACE = "int act(int,int,int);int back();int body(int);int byTurns(int,int);"
        + "long can(int,int);int care(int,int);int cared(int);int cares(int,int);int comes(int);int count(int);"
        + "int day();int drawn(int,int,int);long element(int,int);int feed(int);int first(int);"
        + "int fits(int,int,int);int gives(int,int,int);int gone(int,int);int image();int judge(int,int);"
        + "int keep(int,int);int lacking(int);int later(int,int);int law();int led(int);int mend(int,int,int);"
        + "int mended(int);int of(int,int);int paid(int,int);int people(int,int,int);int person(int);"
        + "int put(int,int,long);int redo();int round(int,int);int row(int,int,int);"
        + "int shift(int,int,int,int,int);int taken(int,int);int trace(int);int undo();";

    private static String told(Method m) {
        StringBuilder s = new StringBuilder(m.getReturnType().getName());
        s.append(' ').append(m.getName()).append('(');
        for (int i = 0; i < m.getParameterCount(); i++) {
            s.append(i > 0 ? "," : "").append(m.getParameterTypes()[i].getName());
        }
        return s.append(");").toString();
    }

    private static void face() {
        Set<String> open = new TreeSet<>();
        Set<String> names = new TreeSet<>();
        for (Method m : ShieldLine.class.getDeclaredMethods()) {
            if (!Modifier.isPrivate(m.getModifiers())) {
                open.add(told(m));
                names.add(m.getName());
            }
        }
        due.is("the methods: " + open, String.join("", open).equals(sorted(FACE)) ? 1 : 0, 1);
        for (Method m : ShieldLine.class.getDeclaredMethods()) hidden(m, names);
        for (Class<?> inside : ShieldLine.class.getDeclaredClasses()) {
            due.is(inside + " is static", Modifier.isStatic(inside.getModifiers()) ? 1 : 0, 1);
            for (Method m : inside.getDeclaredMethods()) hidden(m, names);
            fields(inside);
        }
        fields(ShieldLine.class);
        for (Constructor<?> c : ShieldLine.class.getDeclaredConstructors()) {
            due.is("one constructor, public", Modifier.isPublic(c.getModifiers()) ? c.getParameterCount() : -1, 0);
        }
        due.is("final", Modifier.isFinal(ShieldLine.class.getModifiers()) ? 1 : 0, 1);
        due.is("at most twelve classes", ShieldLine.class.getDeclaredClasses().length <= 12 ? 1 : 0, 1);
        int[] constants = {ShieldLine.BAD, ShieldLine.NOT, ShieldLine.FULL, ShieldLine.STATE, ShieldLine.VOID};
        int[] values = {-1, -2, -3, -5, -2000000000};
        for (int i = 0; i < 5; i++) due.is("constant " + i, constants[i], values[i]);
    }

    private static String sorted(String face) {
        Set<String> all = new TreeSet<>();
        for (String one : face.split(";")) all.add(one + ";");
        return String.join("", all);
    }

    private static void hidden(Method m, Set<String> names) {
        due.is(m + " takes seven at most", m.getParameterCount() <= 7 ? 1 : 0, 1);
        if (Modifier.isPrivate(m.getModifiers())) {
            due.is(m + " bears a public one's name", names.contains(m.getName()) ? 1 : 0, 0);
        }
    }

    private static void fields(Class<?> c) {
        int own = 0;
        List<String> open = new ArrayList<>();
        for (Field f : c.getDeclaredFields()) {
            boolean isStatic = Modifier.isStatic(f.getModifiers());
            own += isStatic ? 0 : 1;
            if (isStatic) due.is(f + " is final", Modifier.isFinal(f.getModifiers()) ? 1 : 0, 1);
            if (!Modifier.isPrivate(f.getModifiers())) open.add(f.getName());
        }
        due.is(c + " has twenty fields at most", own <= 20 ? 1 : 0, 1);
        String want = c == ShieldLine.class ? "[BAD, NOT, FULL, STATE, VOID]" : "[]";
        due.is(c + " opens " + open, open.toString().equals(want) ? 1 : 0, 1);
    }

    private static void text() throws Exception {
        String all = Files.readString(Path.of("src/main/java/ShieldLine.java"));
        String code = all.replaceAll("(?s)/\\*.*?\\*/", " ").replaceAll("//[^\n]*", " ");
        String[] banned = {"throw", "throws", "try", "catch", "synchronized", "assert", "Exact", "hashCode", "toString",
            "package", "import", "Random", "System\\.(?!arraycopy)", "Thread", "->", "::", "double", "float", "String", "null"};
        for (String word : banned) {
            Matcher m = Pattern.compile(word.matches("\\w+") ? "\\b" + word + "\\b" : word).matcher(code);
            due.is("the word " + word, m.find() ? 1 : 0, 0);
        }
        for (int i = 0; i < all.length(); i++) {
            if (all.charAt(i) > 126) due.is("the sign at " + i, all.charAt(i), 0);
        }
        methodsAreShort(all.split("\n"));
    }

    private static void methodsAreShort(String[] lines) {
        int begun = -1;
        String end = "";
        for (int i = 0; i < lines.length; i++) {
            Matcher m = Pattern.compile("^( {4}| {8})(private|public) .*\\) \\{$").matcher(lines[i]);
            if (m.matches()) {
                begun = i;
                end = m.group(1) + "}";
            } else if (begun >= 0 && lines[i].equals(end)) {
                due.is(lines[begun].trim() + " is short", i - begun < 60 ? 1 : 0, 1);
                begun = -1;
            }
        }
    }

    public static void main(String[] args) throws Exception {
        face();
        text();
        due.end();
    }
}
