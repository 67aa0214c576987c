import java.lang.reflect.Constructor;
import java.lang.reflect.Field;
import java.lang.reflect.Method;
import java.lang.reflect.Modifier;
import java.nio.file.Files;
import java.nio.file.Path;
import java.util.Set;
import java.util.TreeSet;
import java.util.regex.Matcher;
import java.util.regex.Pattern;

/** The public face, and what a reader of the text can see of the language's rules. */
public final class LanguageTest {
    private static final Set<String> FACE = new TreeSet<>(Set.of(
            "boolean rules(int,int,int,int)", "int farm()", "int field(int,int,int,int,int,int)",
            "boolean weather(boolean,int,int)", "int round(int)", "int pass()", "boolean cut(int,int)",
            "boolean fire(int)", "int hours(int)", "int feed(int,int,int,int,int)", "int end(int)", "boolean text()",
            "int fault(int)", "int tells(int,int,int,int,int)", "int sweet(int,int)", "int fieldOf(int,int)",
            "int load(int,int)", "int bundle(int)", "int best(int,int)", "int bestSet(int,int)", "long paid(int)",
            "int about(int)"));

    public static void main(String[] args) throws Exception {
        face();
        insides();
        words();
        library();
        divisors();
        shortMethods();
        Due.is("NONE", CaneRounds.NONE, -1);
        Due.finish();
    }

    private static void face() {
        Set<String> seen = new TreeSet<>();
        for (Method m : CaneRounds.class.getDeclaredMethods()) {
            if (!Modifier.isPrivate(m.getModifiers())) {
                seen.add(told(m));
            }
        }
        for (String method : FACE) {
            Due.is("the face has " + method, seen.contains(method), true);
        }
        Due.is("the face has no more than " + FACE + ", not " + seen, seen.size(), FACE.size());
        for (Field f : CaneRounds.class.getDeclaredFields()) {
            Due.is(f + " is private", Modifier.isPrivate(f.getModifiers()), !f.getName().equals("NONE"));
        }
        Constructor<?>[] constructors = CaneRounds.class.getDeclaredConstructors();
        Due.is("constructors", constructors.length, 1);
        Due.is("its parameters", constructors[0].getParameterCount(), 0);
        Due.is("final", Modifier.isFinal(CaneRounds.class.getModifiers()), true);
    }

    private static String told(Method m) {
        StringBuilder parameters = new StringBuilder();
        for (Class<?> type : m.getParameterTypes()) {
            parameters.append(parameters.length() == 0 ? "" : ",").append(type.getSimpleName());
        }
        return m.getReturnType().getSimpleName() + " " + m.getName() + "(" + parameters + ")";
    }

    private static void insides() {
        Class<?>[] inside = CaneRounds.class.getDeclaredClasses();
        Due.is("at most twelve classes", inside.length < 12, true);
        for (Class<?> c : inside) {
            Due.is(c + " is static", Modifier.isStatic(c.getModifiers()), true);
            checkClass(c);
        }
        checkClass(CaneRounds.class);
    }

    private static void checkClass(Class<?> c) {
        int fields = 0;
        for (Field f : c.getDeclaredFields()) {
            boolean constant = Modifier.isStatic(f.getModifiers());
            fields += constant ? 0 : 1;
            Due.is(f + " is final if static", !constant || Modifier.isFinal(f.getModifiers()), true);
        }
        Due.is(c + " has at most twenty fields", fields <= 20, true);
        for (Method m : c.getDeclaredMethods()) {
            boolean named = FACE.stream().anyMatch(f -> f.contains(" " + m.getName() + "("));
            Due.is(m + " bears no public name", !Modifier.isPrivate(m.getModifiers()) || !named, true);
            Due.is(m + " takes at most seven", m.getParameterCount() <= 7, true);
        }
    }

    private static String code() throws Exception {
        String source = Files.readString(Path.of("src/main/java/CaneRounds.java"));
        return source.replaceAll("(?s)/\\*.*?\\*/", "").replaceAll("//[^\n]*", "");
    }

    private static void words() throws Exception {
        String code = code();
        String ruledOut = "\\b(throw|throws|try|catch|synchronized|assert|import|package|native|volatile|protected|"
                + "Exact|random|Object|Thread|System|double|float|hashCode|toString|equals)\\b|->|::|\\w+Exact\\b";
        Matcher found = Pattern.compile(ruledOut).matcher(code);
        while (found.find()) {
            Due.is("the class has no " + found.group(), true, false);
        }
    }

    /** Every call of a class's function, and every object made, is the library's part that is left or one's own. */
    private static void library() throws Exception {
        String code = code();
        Set<String> own = new TreeSet<>();
        for (Class<?> c : CaneRounds.class.getDeclaredClasses()) {
            own.add(c.getSimpleName());
        }
        Matcher called = Pattern.compile("\\b([A-Z]\\w*)\\.([a-z]\\w*)\\(").matcher(code);
        while (called.find()) {
            boolean left = called.group(1).equals("Math") && Set.of("max", "min", "abs").contains(called.group(2));
            Due.is(called.group() + " is left by rule 4", left || own.contains(called.group(1)), true);
        }
        Matcher made = Pattern.compile("\\bnew (\\w+)").matcher(code);
        while (made.find()) {
            boolean numbers = Set.of("int", "long", "byte").contains(made.group(1));
            Due.is(made.group() + " is left by rule 3", numbers || own.contains(made.group(1)), true);
        }
        Due.is("no texts, so none is joined by +", code.contains("\""), false);
    }

    /** What is divided by is a constant, or was looked at on the same line or in the loop around it. */
    private static void divisors() throws Exception {
        Set<String> safe = Set.of("divisor == 0 ? 0 : value / divisor", "(km + 9) / 10", "(clock + 1) % DAY == 0",
                "(s >>> 16) % (ordered - i)");
        String code = code();
        for (String known : safe) {
            code = code.replace(known, "");
        }
        code = code.replace("'/'", "");
        Due.is("no other / in the class", code.contains("/"), false);
        Due.is("no other % in the class", code.contains("%"), false);
    }

    private static void shortMethods() throws Exception {
        int begun = 0;
        int number = 0;
        int methods = 0;
        String end = null;
        for (String line : Files.readAllLines(Path.of("src/main/java/CaneRounds.java"))) {
            number++;
            if (line.matches(" {4,8}(public|private)\\b.*\\{") && !line.contains(" class ")) {
                begun = number;
                end = " ".repeat(line.length() - line.stripLeading().length()) + "}";
            }
            if (line.equals(end)) {
                Due.is("the method at line " + begun + " is short", number - begun < 60, true);
                methods++;
                end = null;
            }
        }
        Due.is("methods were found", methods > FACE.size(), true);
    }
}
