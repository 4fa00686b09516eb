import java.util.NoSuchElementException;
import java.util.Random;

/** Long runs of calls, with a fixed seed, on the class and on the model side by side. */
public final class ModelTest {
    private static final int RUNS = 400;
    /** No run begins a further step at this count: a text takes 41 calls, and 512 are promised. */
    private static final int CALLS = 470;
    private static final int[] ODD = {-1, -2, 4, 5, 20, 120, 1000, Integer.MAX_VALUE, Integer.MIN_VALUE};
    private static final String[] PIECES = {
        "scenes", "group", "line", "set", ";", " ", "\n", "0", "1", "2", "16", "999", "1000", "10000",
        "a", "0a", "$", "\u00ff", "\t", "05", "100", "10", "9",
    };

    private final Random random;
    private final VarianceBridge x = new VarianceBridge();
    private final Model m = new Model();
    private int calls = 0;

    private ModelTest(long seed) {
        random = new Random(seed);
    }

    public static void main(String[] args) {
        for (int run = 0; run < RUNS; run++) {
            ModelTest test = new ModelTest(run);
            test.run(run);
        }
        Check.finish("ModelTest");
    }

    private void run(int run) {
        String name = "run " + run + " ";
        giveText(name);
        while (calls < CALLS) {
            if (random.nextInt(60) == 0) {
                giveText(name);
            } else if (random.nextInt(3) == 0) {
                act(name);
            } else {
                ask(name);
            }
        }
    }

    private int pick(int bound) {
        return random.nextInt(25) == 0 ? ODD[random.nextInt(ODD.length)] : random.nextInt(bound);
    }

    private int node() {
        return pick(random.nextInt(12) == 0 ? 21 : m.now(1));
    }

    private int scene() {
        return pick(m.now(0));
    }

    private int number(int factor) {
        int[] kinds = {1000, 1000, 1000, 202, 102};
        int kind = factor >= 0 && factor < 5 ? kinds[factor] : 100;
        return random.nextInt(6) == 0 ? random.nextInt(2) : pick(random.nextInt(3) == 0 ? 12 : kind);
    }

    private String soundText() {
        StringBuilder text = new StringBuilder();
        int scenes = 1 + random.nextInt(4);
        text.append("scenes ").append(scenes).append(';');
        int nodes = random.nextInt(17);
        boolean[] group = new boolean[18];
        group[0] = true;
        for (int n = 1; n <= nodes; n++) {
            int parent = random.nextInt(n);
            while (!group[parent]) {
                parent--;
            }
            group[n] = random.nextInt(3) == 0;
            text.append(blank()).append(group[n] ? "group " : "line ").append(parent).append(blank()).append(';');
        }
        for (int leaf = 1; leaf <= nodes; leaf++) {
            for (int scene = 0; scene < scenes && text.length() < 560; scene++) {
                if (!group[leaf] && random.nextInt(4) != 0) {
                    appendSet(text, leaf, scene);
                }
            }
        }
        return text.toString();
    }

    private void appendSet(StringBuilder text, int leaf, int scene) {
        text.append("set ").append(leaf).append(' ').append(scene);
        text.append(' ').append(random.nextInt(3) == 0 ? 0 : random.nextInt(30));
        text.append(' ').append(random.nextInt(100)).append(blank()).append(' ').append(random.nextInt(100));
        text.append(' ').append(1 + random.nextInt(200)).append(' ').append(10 + random.nextInt(91));
        text.append(';').append(blank());
    }

    private String blank() {
        int kind = random.nextInt(20);
        return kind == 0 ? " " : kind == 1 ? "\n" : "";
    }

    private String spoilt(String sound) {
        StringBuilder text = new StringBuilder(sound);
        int times = random.nextInt(3);
        for (int i = 0; i < times; i++) {
            int at = random.nextInt(text.length() + 1);
            String piece = PIECES[random.nextInt(PIECES.length)];
            int kind = random.nextInt(4);
            if (kind == 0) {
                text.insert(at, piece);
            } else if (kind == 1) {
                text.replace(at, Math.min(at + 1, text.length()), piece);
            } else if (kind == 2) {
                text.delete(at, Math.min(at + random.nextInt(4), text.length()));
            } else {
                text.insert(at, " ".repeat(random.nextInt(300)));
            }
        }
        return text.substring(0, Math.min(text.length(), 640));
    }

    private void giveText(String name) {
        byte[] bytes = Check.bytesOf(spoilt(soundText()));
        same(name + "end", x.end(0) ? 1 : 0, m.end(0) ? 1 : 0);
        for (int at = 0; at < bytes.length; at += 20) {
            int[] f = new int[5];
            for (int i = 0; i < 20; i++) {
                f[i / 4] = f[i / 4] << 8 | (at + i < bytes.length ? bytes[at + i] & 255 : 32);
            }
            same(name + "feed", x.feed(f[0], f[1], f[2], f[3], f[4]), m.feed(f[0], f[1], f[2], f[3], f[4]));
        }
        if (random.nextInt(5) != 0) {
            same(name + "end", x.end(bytes.length) ? 1 : 0, m.end(bytes.length) ? 1 : 0);
        }
        same(name + "text", x.text(), m.text());
        same(name + "fault", x.fault(), m.fault());
        for (int what = 0; what < 5; what++) {
            same(name + "now " + what, x.now(what), m.now(what));
        }
    }

    private void act(String name) {
        int n = node();
        int g = node();
        int a = scene();
        int b = scene();
        int f = pick(5);
        int v = number(f);
        switch (random.nextInt(8)) {
            case 0:
                same(name + "copy", x.copy(a, b), m.copy(a, b));
                break;
            case 1:
            case 2:
                same(name + "move", x.move(n, g) ? 1 : 0, m.move(n, g) ? 1 : 0);
                break;
            case 3:
                same(name + "grow", x.grow(g), m.grow(g));
                break;
            case 4:
                same(name + "undo", x.undo(), m.undo());
                break;
            default:
                same(name + "set", x.set(n, a, f, v), m.set(n, a, f, v));
                break;
        }
    }

    private void ask(String name) {
        int n = node();
        int a = scene();
        int b = scene();
        int f = pick(5);
        switch (random.nextInt(13)) {
            case 0:
                same(name + "now", x.now(f), m.now(f));
                break;
            case 1:
                sameNode(name, n, pick(4));
                break;
            case 2:
                same(name + "factor", x.factor(n, a, f), m.factor(n, a, f));
                break;
            case 3:
                same(name + "value", x.value(n, a), m.value(n, a));
                break;
            case 4:
                same(name + "how", x.how(n, a, b), m.how(n, a, b));
                break;
            case 5:
                int order = pick(120);
                same(name + "order", x.order(order), m.order(order));
                break;
            default:
                askOfTwo(name, n, a, b, f);
                break;
        }
    }

    private void askOfTwo(String name, int n, int a, int b, int f) {
        int k = pick(8);
        int order = random.nextInt(3) == 0 ? -1 : pick(120);
        int v = number(f);
        switch (random.nextInt(9)) {
            case 0:
            case 1:
            case 2:
                same(name + "effect", x.effect(n, a, b, order, k), m.effect(n, a, b, order, k));
                break;
            case 3:
                same(name + "mix", x.mix(n, a, b), m.mix(n, a, b));
                break;
            case 4:
                same(name + "flatters", x.flatters(n, a, b, f), m.flatters(n, a, b, f));
                break;
            case 5:
                same(name + "mover", x.mover(a, b, k), m.mover(a, b, k));
                break;
            case 6:
                same(name + "branch", x.branch(a, b), m.branch(a, b));
                break;
            case 7:
                same(name + "would", x.would(n, a, f, v), m.would(n, a, f, v));
                break;
            default:
                int aim = Math.max(-2000000000, m.value(0, a)) + random.nextInt(4001) - 2000;
                int asked = random.nextInt(8) == 0 ? random.nextInt() : aim;
                same(name + "needs", x.needs(n, a, asked), m.needs(n, a, asked));
                break;
        }
    }

    private void sameNode(String name, int n, int what) {
        long got = Long.MIN_VALUE;
        long want = Long.MIN_VALUE;
        try {
            got = x.node(n, what);
        } catch (NoSuchElementException e) {
            got = Long.MAX_VALUE;
        }
        try {
            want = m.node(n, what);
        } catch (NoSuchElementException e) {
            want = Long.MAX_VALUE;
        }
        same(name + "node", got, want);
    }

    private void same(String call, long got, long want) {
        calls++;
        Check.due(call + " (call " + calls + ")", got, want);
    }
}
