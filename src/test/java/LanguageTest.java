import java.lang.reflect.Constructor;
import java.lang.reflect.Field;
import java.lang.reflect.Method;
import java.lang.reflect.Modifier;
import java.nio.file.Files;
import java.nio.file.Path;
import java.util.Set;
import java.util.TreeSet;
import java.util.regex.Matcher;
import java.util.regex.Pattern;

/** The public face, and what a reader of the text can see of the language's rules. */
public final class LanguageTest {
    private static final Set<String> FACE = new TreeSet<>(Set.of(
            "boolean rules(int,int,int,int)", "int farm()", "int field(int,int,int,int,int,int)",
            "boolean weather(boolean,int,int)", "int round(int)", "int pass()", "boolean cut(int,int)",
            "boolean fire(int)", "int hours(int)", "int feed(int,int,int,int,int)", "int end(int)", "boolean text()",
            "int fault(int)", "int tells(int,int,int,int,int)", "int sweet(int,int)", "int fieldOf(int,int)",
            "int load(int,int)", "int bundle(int)", "int best(int,int)", "int bestSet(int,int)", "long paid(int)",
            "int about(int)"));

    public static void main(String[] args) throws Exception {
        face();
        insides();
        words();
        Due.is("NONE", CaneRounds.NONE, -1);
        Due.finish();
    }

    private static void face() {
        Set<String> seen = new TreeSet<>();
        for (Method m : CaneRounds.class.getDeclaredMethods()) {
            if (!Modifier.isPrivate(m.getModifiers())) {
                seen.add(told(m));
            }
        }
        for (String method : FACE) {
            Due.is("the face has " + method, seen.contains(method), true);
        }
        Due.is("the face has no more than " + FACE + ", not " + seen, seen.size(), FACE.size());
        for (Field f : CaneRounds.class.getDeclaredFields()) {
            Due.is(f + " is private", Modifier.isPrivate(f.getModifiers()), !f.getName().equals("NONE"));
        }
        Constructor<?>[] constructors = CaneRounds.class.getDeclaredConstructors();
        Due.is("constructors", constructors.length, 1);
        Due.is("its parameters", constructors[0].getParameterCount(), 0);
        Due.is("final", Modifier.isFinal(CaneRounds.class.getModifiers()), true);
    }

    private static String told(Method m) {
        StringBuilder parameters = new StringBuilder();
        for (Class<?> type : m.getParameterTypes()) {
            parameters.append(parameters.length() == 0 ? "" : ",").append(type.getSimpleName());
        }
        return m.getReturnType().getSimpleName() + " " + m.getName() + "(" + parameters + ")";
    }

    private static void insides() {
        Class<?>[] inside = CaneRounds.class.getDeclaredClasses();
        Due.is("at most twelve classes", inside.length < 12, true);
        for (Class<?> c : inside) {
            Due.is(c + " is static", Modifier.isStatic(c.getModifiers()), true);
            checkClass(c);
        }
        checkClass(CaneRounds.class);
    }

    private static void checkClass(Class<?> c) {
        int fields = 0;
        for (Field f : c.getDeclaredFields()) {
            boolean constant = Modifier.isStatic(f.getModifiers());
            fields += constant ? 0 : 1;
            Due.is(f + " is final if static", !constant || Modifier.isFinal(f.getModifiers()), true);
        }
        Due.is(c + " has at most twenty fields", fields <= 20, true);
        for (Method m : c.getDeclaredMethods()) {
            boolean named = FACE.stream().anyMatch(f -> f.contains(" " + m.getName() + "("));
            Due.is(m + " bears no public name", !Modifier.isPrivate(m.getModifiers()) || !named, true);
            Due.is(m + " takes at most seven", m.getParameterCount() <= 7, true);
        }
    }

    private static void words() throws Exception {
        String source = Files.readString(Path.of("src/main/java/CaneRounds.java"));
        String code = source.replaceAll("(?s)/\\*.*?\\*/", "").replaceAll("//[^\n]*", "");
        String ruledOut = "\\b(throw|throws|try|catch|synchronized|assert|import|package|native|volatile|protected|"
                + "Exact|random|Object|Thread|System|double|float|hashCode|toString|equals)\\b|->|::|\\w+Exact\\b";
        Matcher found = Pattern.compile(ruledOut).matcher(code);
        while (found.find()) {
            Due.is("the class has no " + found.group(), true, false);
        }
    }
}
