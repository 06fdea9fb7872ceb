import java.io.IOException;
import java.lang.reflect.Constructor;
import java.lang.reflect.Field;
import java.lang.reflect.Method;
import java.lang.reflect.Modifier;
import java.nio.file.Files;
import java.nio.file.Path;
import java.util.ArrayList;
import java.util.Arrays;
import java.util.List;
import java.util.TreeSet;
import java.util.regex.Matcher;
import java.util.regex.Pattern;

/** The face of the document, and those rules of LANGUAGE.md that can be looked up in the class and its source. */
public final class LanguageTest {
    private static final Path SOURCE = Path.of("src/main/java/SoundSpeller.java");
    private static final int MOST_CLASSES = 12;
    private static final int MOST_FIELDS = 20;
    private static final int MOST_PARAMETERS = 7;
    private static final int MOST_LINES = 60;

    private static final String[] FACE = {
        "public final int BAD_VALUE", "public final int FULL", "public final int NONE",
        "public final int NOT_POSSIBLE", "public final int UNKNOWN", "SoundSpeller()",
        "int at(int,int,int)", "int clearText()", "int collideWith(char,char)", "int convert(boolean)",
        "int count(int)", "int keep()", "int letterOf(int,int)", "int markCollisions()", "int moveRule(int,int)",
        "int readEntries()", "int removeRule(int)", "int removeWord(int)", "int restore()", "int result(int)",
        "int rule(int,int)", "int setKind(int,int)", "int sign(char,int)", "int takeResult()", "int type(char)",
        "int undo()", "int word(int,int)",
    };

    /** Words that the language leaves out, and those of the library that have no place in this class. */
    private static final String[] LEFT_OUT = {
        "throw", "throws", "try", "catch", "synchronized", "assert", "import", "package", "protected", "->", "::",
        "equals", "hashCode", "toString", "System", "Thread", "Object", "float", "double", "native", "volatile",
        "String", "new int[][]", "var", "Exact",
    };

    private LanguageTest() {
    }

    public static void main(String[] args) throws IOException {
        face();
        classes();
        source(Files.readString(SOURCE));
        Check.end();
    }

    private static void face() {
        TreeSet<String> open = new TreeSet<>();
        TreeSet<String> hidden = new TreeSet<>();
        for (Field field : SoundSpeller.class.getDeclaredFields()) {
            if (!Modifier.isPrivate(field.getModifiers())) {
                boolean constant = Modifier.isStatic(field.getModifiers()) && Modifier.isFinal(field.getModifiers());
                open.add((constant ? "public final " : "") + field.getType().getSimpleName() + " " + field.getName());
            }
        }
        for (Constructor<?> made : SoundSpeller.class.getDeclaredConstructors()) {
            open.add("SoundSpeller" + parameters(made.getParameterTypes()));
        }
        for (Method method : SoundSpeller.class.getDeclaredMethods()) {
            if (Modifier.isPrivate(method.getModifiers())) {
                hidden.add(method.getName());
            } else if (Modifier.isPublic(method.getModifiers()) && !Modifier.isStatic(method.getModifiers())) {
                open.add(method.getReturnType() + " " + method.getName() + parameters(method.getParameterTypes()));
            } else {
                open.add("not public: " + method.getName());
            }
        }
        Check.due("face", String.join("; ", open), String.join("; ", new TreeSet<>(Arrays.asList(FACE))));
        for (Method method : SoundSpeller.class.getDeclaredMethods()) {
            boolean twice = Modifier.isPublic(method.getModifiers()) && hidden.contains(method.getName());
            Check.due("a private method " + method.getName(), twice ? 1 : 0, 0);
        }
        Check.due("final class", SoundSpeller.class.getModifiers(), Modifier.PUBLIC | Modifier.FINAL);
    }

    private static String parameters(Class<?>[] types) {
        List<String> names = new ArrayList<>();
        for (Class<?> type : types) {
            names.add(type.getSimpleName());
        }
        return "(" + String.join(",", names) + ")";
    }

    private static void classes() {
        List<Class<?>> all = new ArrayList<>(Arrays.asList(SoundSpeller.class.getDeclaredClasses()));
        all.add(SoundSpeller.class);
        Check.due("few classes", all.size() <= MOST_CLASSES ? 1 : 0, 1);
        for (Class<?> one : all) {
            boolean outer = one == SoundSpeller.class;
            Check.due("static " + one, outer || Modifier.isStatic(one.getModifiers()) ? 1 : 0, 1);
            Check.due("hidden " + one, outer || !Modifier.isPublic(one.getModifiers()) ? 1 : 0, 1);
            Check.due("no classes inside " + one, outer ? 0 : one.getDeclaredClasses().length, 0);
            int fields = 0;
            for (Field field : one.getDeclaredFields()) {
                boolean fixed = Modifier.isStatic(field.getModifiers());
                fields += fixed ? 0 : 1;
                Check.due("final static " + field, fixed && !Modifier.isFinal(field.getModifiers()) ? 1 : 0, 0);
            }
            Check.due("few fields of " + one, fields <= MOST_FIELDS ? 1 : 0, 1);
            for (Method method : one.getDeclaredMethods()) {
                Check.due("few parameters of " + method, method.getParameterCount() <= MOST_PARAMETERS ? 1 : 0, 1);
            }
        }
    }

    private static void source(String whole) {
        String bare = whole.replaceAll("(?s)/\\*.*?\\*/", "").replaceAll("//[^\n]*", "")
                .replaceAll("'(\\\\.|[^'\\\\])'", "0");
        for (String word : LEFT_OUT) {
            boolean name = Character.isLetter(word.charAt(0));
            String pattern = name ? "\\b" + Pattern.quote(word) + "(?!\\w)" : Pattern.quote(word);
            Matcher found = Pattern.compile(pattern).matcher(bare);
            Check.due("uses of " + word, found.find() ? 1 : 0, 0);
        }
        for (char c : whole.toCharArray()) {
            if (c > 126) {
                Check.due("a sign of the source", c, 126);
            }
        }
        int lines = 0;
        for (String line : bare.split("\n")) {
            boolean head = line.matches(" {4,8}[a-zA-Z].*\\) \\{");
            lines = head ? 0 : lines + 1;
            boolean end = line.matches(" {4,8}\\}");
            Check.due("a method's lines", end && lines > MOST_LINES && !line.startsWith("     ") ? lines : 0, 0);
            lines = end ? 0 : lines;
        }
    }
}
