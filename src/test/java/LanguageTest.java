import java.io.IOException;
import java.lang.reflect.Field;
import java.lang.reflect.Method;
import java.lang.reflect.Modifier;
import java.nio.file.Files;
import java.nio.file.Path;
import java.util.ArrayList;
import java.util.Arrays;
import java.util.List;
import java.util.TreeSet;
import java.util.regex.Matcher;
import java.util.regex.Pattern;

/** What of ../shared/LANGUAGE.md can be seen from the class and its source: the face, words that may not stand there, lengths. */
public final class LanguageTest {
    private static final String[] FACE = {"grain(int,int,int)", "set(int,int,int)", "sieve(int,int,int,int)", "told(int,int)",
        "mend(int,int)", "type(long,int)", "loft()", "heap()", "row()", "count(int)", "found(int,int)", "where(int)", "chokes()",
        "shake()", "lasts()", "best(int,int)", "parted(int,int)", "season(int,int)", "fits(int)", "shares(int,int,int,int)",
        "image()", "restore()", "meshes(int,int,int,int)", "torn(int,int,int)", "sheet(int,int,int)", "drop(int)",
        "item(int,int,int,int)", "film(int,int,int)", "copy(int,int,int,int,int)"};
    private static final String[] BANNED = {"\\bthrow\\b", "\\btry\\b", "\\bcatch\\b", "\\bsynchronized\\b", "\\bassert\\b", "\\bimport\\b",
        "\\bpackage\\b", "\\bprotected\\b", "->", "::", "Exact\\b", "\\bequals\\b", "\\bhashCode\\b", "\\btoString\\b",
        "\\bSystem\\.(?!arraycopy\\b)", "\\bMath\\.(?!min\\b|max\\b|abs\\b)", "\\bObject\\b", "\\bstatic\\s*\\{", "[^\\x00-\\x7f]"};
    private static final int MOST_LINES = 60, MOST_CLASSES = 12, MOST_FIELDS = 20, MOST_PARAMETERS = 7;

    private static int wrong = 0;

    private static void say(boolean holds, String what) {
        if (!holds) {
            wrong++;
            System.out.println("not so: " + what);
        }
    }

    public static void main(String[] args) throws IOException {
        face();
        List<Class<?>> classes = new ArrayList<>(Arrays.asList(SieveLoft.class.getDeclaredClasses()));
        for (Class<?> c : classes) {
            say(Modifier.isStatic(c.getModifiers()) && !Modifier.isPublic(c.getModifiers()), c + " is static and not public");
        }
        classes.add(SieveLoft.class);
        say(classes.size() <= MOST_CLASSES, "few classes");
        TreeSet<String> names = new TreeSet<>();
        for (String f : FACE) {
            names.add(f.substring(0, f.indexOf('(')));
        }
        for (Class<?> c : classes) {
            members(c, names);
        }
        source(Files.readString(Path.of("src/main/java/SieveLoft.java")));
        System.out.println(wrong == 0 ? "the language is kept to" : wrong + " rules are not kept to");
        System.exit(wrong == 0 ? 0 : 1);
    }

    private static void face() {
        TreeSet<String> due = new TreeSet<>(Arrays.asList(FACE)), got = new TreeSet<>();
        List<String> longs = Arrays.asList("fits", "meshes");
        for (Method m : SieveLoft.class.getDeclaredMethods()) {
            if (!Modifier.isPrivate(m.getModifiers())) {
                String text = Arrays.toString(m.getParameterTypes()).replaceAll("[\\[\\] ]", "");
                got.add(m.getName() + "(" + text + ")");
                say(m.getReturnType() == (longs.contains(m.getName()) ? long.class : int.class), m + " answers what it should");
            }
        }
        say(due.equals(got), "the face is " + due + "; it was " + got);
        say(Modifier.isFinal(SieveLoft.class.getModifiers()), "the class is final");
        for (Field f : SieveLoft.class.getDeclaredFields()) {
            boolean constant = Arrays.asList("BAD", "NOT", "FULL", "NONE", "NULL", "CAST", "INDEX", "SIZE").contains(f.getName());
            say(constant ? Modifier.isPublic(f.getModifiers()) : Modifier.isPrivate(f.getModifiers()), f + " is of the face, or private");
        }
    }

    private static void members(Class<?> c, TreeSet<String> names) {
        int fields = 0;
        for (Field f : c.getDeclaredFields()) {
            boolean isStatic = Modifier.isStatic(f.getModifiers());
            fields += isStatic ? 0 : 1;
            say(!isStatic || Modifier.isFinal(f.getModifiers()), f + " is final");
        }
        say(fields <= MOST_FIELDS, c + " has few fields");
        for (Method m : c.getDeclaredMethods()) {
            boolean ofTheFace = c == SieveLoft.class && Modifier.isPublic(m.getModifiers());
            say(ofTheFace || !names.contains(m.getName()), m + " bears no name of the face");
            say(m.getParameterCount() <= MOST_PARAMETERS, m + " has few parameters");
        }
    }

    private static void source(String text) {
        String bare = text.replaceAll("(?s)/\\*.*?\\*/", "").replaceAll("//[^\n]*", "");
        for (String banned : BANNED) {
            Matcher found = Pattern.compile(banned).matcher(bare);
            say(!found.find(), "without " + banned);
        }
        int start = -1, line = 0;
        for (String l : text.split("\n", -1)) {
            line++;
            if (l.matches("( {4}| {8})[a-z].*\\(.*\\) \\{") && start < 0) {
                start = line;
            } else if (l.matches("( {4}| {8})\\}") && start >= 0) {
                say(line - start < MOST_LINES, "the method in line " + start + " is short");
                start = -1;
            }
        }
    }
}
