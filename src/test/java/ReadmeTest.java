import java.io.IOException;
import java.lang.reflect.InvocationTargetException;
import java.lang.reflect.Method;
import java.lang.reflect.Modifier;
import java.nio.charset.StandardCharsets;
import java.nio.file.Files;
import java.nio.file.Path;
import java.util.HashMap;
import java.util.List;
import java.util.Map;
import java.util.regex.Matcher;
import java.util.regex.Pattern;

/** Holds README.md to what the class does: each call that stands there with its answer, and the method tell. */
public final class ReadmeTest {
    private static final Due DUE = new Due();
    private static final Path README = Path.of("README.md");
    private static final Path OWN_SOURCE = Path.of("src/test/java/ReadmeTest.java");
    private static final Pattern CALL = Pattern.compile("x\\.(\\w+)\\(([-\\d, ]*)\\); +// (true|false|-?\\d+)( .*)?");
    private static final Pattern TELL = Pattern.compile("tell\\(x, \"([^\"]*)\"\\);");

    public static void main(String[] args) throws IOException, ReflectiveOperationException {
        List<String> lines = Files.readAllLines(README, StandardCharsets.UTF_8);
        int calls = answersAsTold(lines);
        DUE.due("README.md has calls with their answers", calls > 0, true);
        tellAsTold(lines);
        DUE.finish();
    }

    private static int answersAsTold(List<String> lines) throws ReflectiveOperationException {
        TreacleTank x = new TreacleTank();
        Map<String, Method> methods = faceByName();
        int calls = 0;
        for (String line : lines) {
            Matcher call = CALL.matcher(line);
            Matcher tell = TELL.matcher(line);
            if (call.matches()) {
                calls++;
                DUE.due("README.md: " + line, answer(x, methods.get(call.group(1)), call.group(2)),
                        asNumber(call.group(3)));
            } else if (tell.matches()) {
                tell(x, tell.group(1));
            } else {
                DUE.due("README.md, a call without an answer: " + line, line.startsWith("x."), false);
            }
        }
        return calls;
    }

    private static Map<String, Method> faceByName() {
        Map<String, Method> methods = new HashMap<>();
        for (Method method : TreacleTank.class.getDeclaredMethods()) {
            if (Modifier.isPublic(method.getModifiers())) {
                methods.put(method.getName(), method);
            }
        }
        return methods;
    }

    private static long answer(TreacleTank x, Method method, String numbers)
            throws IllegalAccessException, InvocationTargetException {
        String[] parts = numbers.isEmpty() ? new String[0] : numbers.split(", ");
        Object[] arguments = new Object[parts.length];
        for (int n = 0; n < parts.length; n++) {
            arguments[n] = Integer.valueOf(parts[n]);
        }
        return asNumber(method.invoke(x, arguments).toString());
    }

    private static long asNumber(String answer) {
        if (answer.equals("true") || answer.equals("false")) {
            return answer.equals("true") ? 1 : 0;
        }
        return Long.parseLong(answer);
    }

    /** The method tell of README.md is the one below, line for line. */
    private static void tellAsTold(List<String> readme) throws IOException {
        List<String> own = Files.readAllLines(OWN_SOURCE, StandardCharsets.UTF_8);
        int told = readme.indexOf("static void tell(TreacleTank x, String text) {");
        int used = own.indexOf("    static void tell(TreacleTank x, String text) {");
        DUE.due("README.md has the method tell", told >= 0 && used >= 0, true);
        if (told < 0 || used < 0) {
            return;
        }
        int n = 0;
        while (!own.get(used + n).equals("    }")) {
            DUE.due("README.md tells tell otherwise than: " + own.get(used + n),
                    told + n < readme.size() && own.get(used + n).equals("    " + readme.get(told + n)), true);
            n++;
        }
    }

    static void tell(TreacleTank x, String text) {
        x.end(0);
        for (int from = 0; from < text.length(); from += 20) {
            int[] five = new int[5];
            for (int n = 0; n < 20 && from + n < text.length(); n++) {
                five[n / 4] |= text.charAt(from + n) << (24 - n % 4 * 8);
            }
            x.feed(five[0], five[1], five[2], five[3], five[4]);
        }
        x.end(text.length());
    }
}
