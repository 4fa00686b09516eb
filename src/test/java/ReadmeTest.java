import java.io.IOException;
import java.lang.reflect.Method;
import java.nio.file.Files;
import java.nio.file.Path;
import java.util.List;
import java.util.regex.Matcher;
import java.util.regex.Pattern;

/** The calls that README.md shows answer what it says behind them, and it names every call of the face. */
public final class ReadmeTest {
    private static final Pattern CALL = Pattern.compile("x\\.(\\w+)\\(([^)]*)\\);\\s*// (-?\\w+).*");

    public static void main(String[] args) throws IOException, ReflectiveOperationException {
        List<String> lines = Files.readAllLines(Path.of("README.md"));
        VarianceBridge x = new VarianceBridge();
        int calls = 0;
        for (String line : lines) {
            if (line.equals("VarianceBridge x = new VarianceBridge();")) {
                x = new VarianceBridge();
            } else if (line.startsWith("x.")) {
                Matcher call = CALL.matcher(line);
                Check.due("a call and its answer: " + line, call.matches(), true);
                Check.due(line, answerOf(x, call.group(1), call.group(2)), numberOf(call.group(3)));
                calls++;
            }
        }
        Check.due("calls were made", calls >= 22, true);
        String all = String.join("\n", lines);
        for (Method method : VarianceBridge.class.getMethods()) {
            if (method.getDeclaringClass() == VarianceBridge.class) {
                Check.due("it names " + method.getName(), all.contains("| `" + method.getName() + "("), true);
            }
        }
        theReadMethod();
        Check.finish("ReadmeTest");
    }

    private static long answerOf(VarianceBridge x, String name, String told) throws ReflectiveOperationException {
        String[] parts = told.isEmpty() ? new String[0] : told.split(", ");
        Class<?>[] types = new Class<?>[parts.length];
        Object[] numbers = new Object[parts.length];
        for (int i = 0; i < parts.length; i++) {
            types[i] = int.class;
            numbers[i] = (int) numberOf(parts[i]);
        }
        Object answer = VarianceBridge.class.getMethod(name, types).invoke(x, numbers);
        return answer instanceof Boolean yes ? (yes ? 1 : 0) : (Integer) answer;
    }

    private static long numberOf(String told) {
        switch (told) {
            case "true":
                return 1;
            case "false":
                return 0;
            case "VarianceBridge.NONE":
                return VarianceBridge.NONE;
            default:
                return Long.decode(told);
        }
    }

    /** The page's method that puts a whole text on the tape, as it stands there. */
    private static int read(VarianceBridge bridge, String text) {
        bridge.end(0);
        for (int at = 0; at < text.length(); at += 20) {
            int[] five = new int[5];
            for (int i = 0; i < 20 && at + i < text.length(); i++) {
                five[i / 4] |= (text.charAt(at + i) & 255) << 24 - i % 4 * 8;
            }
            if (bridge.feed(five[0], five[1], five[2], five[3], five[4]) == VarianceBridge.NONE) {
                throw new IllegalArgumentException("longer than the tape");
            }
        }
        bridge.end(text.length());
        return bridge.text();
    }

    private static void theReadMethod() throws IOException {
        String page = Files.readString(Path.of("README.md"));
        String here = Files.readString(Path.of("src/test/java/ReadmeTest.java"));
        int begin = page.indexOf("static int read(");
        String shown = page.substring(begin, page.indexOf("\n}\n", begin) + 2);
        Check.due("it stands here as shown", here.contains(shown.replace("\n", "\n    ")), true);
        VarianceBridge x = new VarianceBridge();
        x.feed(1, 1, 1, 1, 1);
        Check.due("a short text", read(x, "scenes 3;"), 1);
        Check.due("its scenes", x.now(0), 3);
        Check.due("a longer one", read(x, "scenes 2;line 0;set 1 1 12 60 30 100 80;"), 3);
        Check.due("its value", x.value(0, 1), 12 * (60 - 37));
        Check.due("a fault", read(x, "scenes 2;\u00ff"), -10);
        Check.due("600 bytes", read(x, "scenes 4;" + " ".repeat(591)), 1);
        Check.due("nothing", read(x, ""), -1);
    }
}
