import java.nio.charset.StandardCharsets;
import java.util.NoSuchElementException;

/** What the tests share: comparing answers, and putting a text on the tape. */
final class Check {
    static final int NO_AMOUNT = -1000000000;
    private static int wrong = 0;
    private static int checks = 0;

    private Check() {
    }

    static void due(String call, long got, long want) {
        checks++;
        if (got != want) {
            wrong++;
            if (wrong <= 50) {
                System.out.println(call + " answered " + got + ", due is " + want);
            }
        }
    }

    static void due(String call, boolean got, boolean want) {
        due(call, got ? 1 : 0, want ? 1 : 0);
    }

    static void dueText(String call, String got, String want) {
        checks++;
        if (!got.equals(want)) {
            wrong++;
            if (wrong <= 50) {
                System.out.println(call + " is" + got + "\n    due is" + want);
            }
        }
    }

    static void dueThrow(VarianceBridge x, int node, int what) {
        long thrown = 0;
        try {
            x.node(node, what);
        } catch (NoSuchElementException e) {
            thrown = 1;
        }
        due("node(" + node + ", " + what + ") throws", thrown, 1);
    }

    static byte[] bytesOf(String text) {
        return text.getBytes(StandardCharsets.ISO_8859_1);
    }

    /** Puts bytes on an empty tape: full feeds, then the tape is cut to what was meant. */
    static void feedBytes(VarianceBridge x, byte[] bytes) {
        for (int at = 0; at < bytes.length; at += 20) {
            int[] five = new int[5];
            for (int i = 0; i < 20; i++) {
                int b = at + i < bytes.length ? bytes[at + i] & 255 : 0;
                five[i / 4] = five[i / 4] << 8 | b;
            }
            due("feed at " + at, x.feed(five[0], five[1], five[2], five[3], five[4]), at + 20);
        }
        due("end", x.end(bytes.length), true);
    }

    static int readText(VarianceBridge x, String text) {
        due("end(0)", x.end(0), true);
        feedBytes(x, bytesOf(text));
        return x.text();
    }

    /** A new object with a text that has no FAULT. */
    static VarianceBridge made(String text) {
        VarianceBridge x = new VarianceBridge();
        int lines = readText(x, text);
        due("a sound text is read: " + text, lines >= 1, true);
        return x;
    }

    static void dueFault(String text, int kind, int place) {
        VarianceBridge x = new VarianceBridge();
        due("text of [" + text + "]", readText(x, text), -1 - place);
        due("fault of [" + text + "]", x.fault(), kind);
        due("now(0) behind the fault of [" + text + "]", x.now(0), 1);
        due("now(1) behind the fault of [" + text + "]", x.now(1), 1);
        due("now(4) behind the fault of [" + text + "]", x.now(4), 0);
    }

    static void dueLines(String text, int lines) {
        VarianceBridge x = new VarianceBridge();
        due("text of [" + text + "]", readText(x, text), lines);
        due("fault of [" + text + "]", x.fault(), 0);
        due("now(4) behind [" + text + "]", x.now(4), 0);
    }

    static void finish(String name) {
        System.out.println(name + ": " + checks + " checks, " + wrong + " wrong");
        if (wrong != 0 || checks == 0) {
            System.exit(1);
        }
    }
}
