import java.lang.reflect.Method;
import java.lang.reflect.Modifier;
import java.nio.file.Files;
import java.nio.file.Path;
import java.util.regex.Matcher;
import java.util.regex.Pattern;

/** README.md's example is run call by call, so that what it says behind // stays what is answered. */
public final class ReadmeTest {
    private static final Pattern CALL = Pattern.compile("mill\\.(\\w+)\\(([^)]*)\\);\\s*// (-?\\w+)");
    private static final int FEWEST_CALLS = 30;

    public static void main(String[] args) throws Exception {
        String readme = Files.readString(Path.of("README.md"));
        example(readme);
        namesEachCall(readme);
        Due.finish();
    }

    private static void example(String readme) throws Exception {
        CaneRounds mill = new CaneRounds();
        int calls = 0;
        Matcher line = CALL.matcher(readme);
        while (line.find()) {
            String got = answer(mill, line.group(1), line.group(2));
            Due.is(line.group() + " .. answered " + got + ":", got.equals(line.group(3)), true);
            calls++;
        }
        Due.is("the example has calls", calls >= FEWEST_CALLS, true);
        Due.is("each line that calls has its answer", readme.split("mill\\.\\w+\\(", -1).length - 1, calls);
    }

    private static String answer(CaneRounds mill, String name, String inputs) throws Exception {
        String[] words = inputs.isEmpty() ? new String[0] : inputs.split(", ");
        Object[] values = new Object[words.length];
        for (int i = 0; i < words.length; i++) {
            boolean isWord = words[i].equals("true") || words[i].equals("false");
            values[i] = isWord ? (Object) Boolean.valueOf(words[i]) : Integer.decode(words[i]);
        }
        for (Method m : CaneRounds.class.getDeclaredMethods()) {
            if (m.getName().equals(name) && Modifier.isPublic(m.getModifiers())) {
                return String.valueOf(m.invoke(mill, values));
            }
        }
        return "nothing: there is no such call";
    }

    private static void namesEachCall(String readme) {
        for (Method m : CaneRounds.class.getDeclaredMethods()) {
            if (Modifier.isPublic(m.getModifiers())) {
                Due.is("README.md tells of " + m.getName(), readme.contains("| `" + m.getName() + "("), true);
            }
        }
    }
}
