import java.io.IOException;
import java.lang.reflect.Constructor;
import java.lang.reflect.Field;
import java.lang.reflect.Method;
import java.lang.reflect.Modifier;
import java.nio.file.Files;
import java.nio.file.Path;
import java.util.Arrays;
import java.util.Set;
import java.util.TreeSet;
import java.util.regex.Matcher;
import java.util.regex.Pattern;

/** The document's public face, and the rules of LANGUAGE.md that a look at the text or the class can tell. */
public final class FaceTest {
    private static final String[] FACE = {
        "int page(int)", "int dot(int,int,int)", "long column(int)", "int row(int,int)", "int take(int,int)",
        "int blank(int,int,int)", "int put(int,int,int)", "long get(int,int)", "int copy(int,int,int,int,int)",
        "int lose(int)", "int shift(int,int,int)", "int profile(int,int,int)", "int sharp(int,int)", "int best(int)",
        "int found(int)", "int tried(int,int)", "int shear(int,int)", "int run(int,int)", "int stroke(int,int)",
        "int baseline(int)", "int foot(int)", "int curl(int)", "long mean()", "long rest()", "int slope()",
        "int level()", "int back()", "int fault()", "int many(int)",
    };
    private static final String[] CONSTANTS = {
        "int UNKNOWN", "int OUTSIDE", "int STATE", "int NONE", "long LOST",
    };
    private static final String[] FORBIDDEN = {
        "\\bthrow\\b", "\\bthrows\\b", "\\btry\\b", "\\bcatch\\b", "\\bsynchronized\\b", "\\bassert\\b", "->", "::",
        "\\bDouble\\b", "\\bFloat\\b", "\\bObject\\b", "Exact\\b", "\\bpackage\\b",
        "\\bMath\\.(?!abs\\b|max\\b|min\\b|floorDiv\\b|floorMod\\b)", "\\bInteger\\.(?!bitCount\\b)",
        "\\bLong\\.(?!MIN_VALUE\\b)", "\\bprotected\\b", "\\bstatic\\s*\\{",
        "\\bwhile\\s*\\(true\\)", "\\bSystem\\.(?!arraycopy\\b)", "\\bArrays\\.(?!fill\\b|copyOf\\b|copyOfRange\\b)",
    };

    public static void main(String[] args) throws IOException {
        methods();
        constantsAndConstructor();
        nestedClasses();
        String text = withoutComments(Files.readString(Path.of(args[0])));
        forbiddenWords(text);
        imports(text);
        methodLengths(text);
        Due.end();
    }

    private static void methods() {
        Set<String> open = new TreeSet<>();
        Set<String> names = new TreeSet<>();
        for (Method method : LevelledInk.class.getDeclaredMethods()) {
            if (Modifier.isPublic(method.getModifiers())) {
                open.add(told(method));
                names.add(method.getName());
            } else {
                Due.holds("rule 1: private: " + method, Modifier.isPrivate(method.getModifiers()));
            }
        }
        same("the methods", open, FACE);
        for (Class<?> inside : LevelledInk.class.getDeclaredClasses()) {
            for (Method method : inside.getDeclaredMethods()) {
                Due.holds("rule 1: a name of its own: " + method, !names.contains(method.getName()));
                Due.holds("rule 11: at most 7 parameters: " + method, method.getParameterCount() <= 7);
            }
        }
    }

    private static String told(Method method) {
        StringBuilder told = new StringBuilder(method.getReturnType() + " " + method.getName() + "(");
        for (Class<?> type : method.getParameterTypes()) {
            told.append(told.charAt(told.length() - 1) == '(' ? "" : ",").append(type);
        }
        return told.append(")").toString();
    }

    private static void same(String what, Set<String> got, String... due) {
        Set<String> wanted = new TreeSet<>(Arrays.asList(due));
        Due.holds(what + " are " + got + ", due are " + wanted, got.equals(wanted));
    }

    private static void constantsAndConstructor() {
        Set<String> open = new TreeSet<>();
        for (Field field : LevelledInk.class.getDeclaredFields()) {
            int how = field.getModifiers();
            if (Modifier.isPublic(how)) {
                open.add(field.getType() + " " + field.getName());
                Due.holds("a constant: " + field, Modifier.isStatic(how) && Modifier.isFinal(how));
            } else {
                Due.holds("rule 1: private: " + field, Modifier.isPrivate(how));
            }
            Due.holds("rule 5: no static state: " + field, !Modifier.isStatic(how) || Modifier.isFinal(how));
        }
        same("the constants", open, CONSTANTS);
        Constructor<?>[] made = LevelledInk.class.getDeclaredConstructors();
        Due.due("constructors", made.length, 1);
        Due.holds("a public one", Modifier.isPublic(made[0].getModifiers()) && made[0].getParameterCount() == 0);
        Due.holds("public and final", (LevelledInk.class.getModifiers() & (Modifier.PUBLIC | Modifier.FINAL))
            == (Modifier.PUBLIC | Modifier.FINAL));
    }

    private static void nestedClasses() {
        Class<?>[] inside = LevelledInk.class.getDeclaredClasses();
        Due.holds("rule 11: some twelve classes", inside.length + 1 <= 12);
        for (Class<?> one : inside) {
            int how = one.getModifiers();
            Due.holds("rule 2: static: " + one, Modifier.isStatic(how));
            Due.holds("rule 1: not public: " + one, !Modifier.isPublic(how) && !Modifier.isProtected(how));
            for (Field field : one.getDeclaredFields()) {
                boolean state = Modifier.isStatic(field.getModifiers()) && !Modifier.isFinal(field.getModifiers());
                Due.holds("rule 5: no static state: " + field, !state);
            }
        }
    }

    private static String withoutComments(String text) {
        return text.replaceAll("(?s)/\\*.*?\\*/", "").replaceAll("//[^\n]*", "");
    }

    private static void forbiddenWords(String text) {
        for (String word : FORBIDDEN) {
            Matcher found = Pattern.compile(word).matcher(text);
            Due.holds("LANGUAGE.md: without " + word, !found.find());
        }
    }

    private static void imports(String text) {
        Matcher found = Pattern.compile("import\\s+([^;]+);").matcher(text);
        while (found.find()) {
            Due.holds("rule 4: " + found.group(1), Set.of("java.util.Arrays").contains(found.group(1)));
        }
    }

    /** A method begins at a line that ends with ") {" and no word of a loop or a question, and ends at its indent. */
    private static void methodLengths(String text) {
        String[] lines = text.split("\n");
        for (int i = 0; i < lines.length; i++) {
            Matcher head = Pattern.compile("^( +)(?!.*\\b(if|for|while|switch|else)\\b).*\\) \\{$").matcher(lines[i]);
            if (head.find()) {
                int end = i;
                while (end < lines.length && !lines[end].equals(head.group(1) + "}")) {
                    end++;
                }
                Due.holds("rule 11: short: " + lines[i].trim(), end - i <= 60);
            }
        }
    }
}
