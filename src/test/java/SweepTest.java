import java.util.NoSuchElementException;

/**
 * Every call with every combination of numbers at and beyond the edges of what it takes, on the class and on
 * the model side by side: none throws by itself, and each answers as the document says.
 */
public final class SweepTest {
    private static final int MIN = Integer.MIN_VALUE;
    private static final int MAX = Integer.MAX_VALUE;
    private static final int[] NODES = {MIN, -1, 0, 1, 2, 3, 4, 5, 6, 7, 20, 32, MAX};
    private static final int[] SCENES = {MIN, -1, 0, 1, 2, 3, 4, MAX};
    private static final int[] FACTORS = {MIN, -1, 0, 1, 2, 3, 4, 5, MAX};
    private static final int[] EFFECTS = {MIN, -1, 0, 2, 4, 5, 6, 7, 8, MAX};
    private static final int[] ORDERS = {MIN, -2, -1, 0, 1, 60, 119, 120, MAX};
    private static final int[] NUMBERS = {MIN, -1, 0, 1, 9, 10, 100, 101, 200, 201, 999, 1000, MAX};
    private static final int[] AMOUNTS = {MIN, -1000000000, -999999999, -1000, 0, 566, 567, 999999999, 1000000000, MAX};

    private static final String[] TEXTS = {
        "scenes 2;group 0;line 1;line 1;line 0;group 0;line 5;set 2 0 10 50 30 100 100;set 2 1 12 60 30 100 80;"
            + "set 3 0 20 40 20 100 100;set 4 1 5 70 20 100 100;set 6 0 3 7 5 33 77;set 6 1 4 9 2 150 60;",
        "scenes 1;",
        "scenes 4;group 0;group 1;group 2;line 3;set 4 3 999 999 0 200 10;set 4 2 999 0 999 1 10;"
            + "set 4 1 1 999 999 200 10;",
        "scenes 3;line 0;line 0;group 0;line 3;set 1 0 999 1 9 50 11;set 2 2 5 5 5 5 55;set 4 0 1 2 3 4 99;"
            + "set 4 1 2 3 4 5 98;",
    };

    private final String text;
    private VarianceBridge x;
    private Model m;
    private int calls;

    private SweepTest(String text) {
        this.text = text;
        renew();
    }

    public static void main(String[] args) {
        for (String text : TEXTS) {
            SweepTest sweep = new SweepTest(text);
            sweep.ofOne();
            sweep.ofTwoNodes();
            sweep.ofFactors();
            sweep.ofScenes();
            sweep.ofEffects();
        }
        Check.finish("SweepTest");
    }

    private void renew() {
        x = Check.made(text);
        m = new Model();
        m.tape(Check.bytesOf(text));
        m.text();
        calls = 40;
    }

    private void same(String call, long got, long want) {
        Check.due(call, got, want);
        calls++;
        if (calls > 480) {
            renew();
        }
    }

    private static String told(String call, int... numbers) {
        return call + java.util.Arrays.toString(numbers);
    }

    private void ofOne() {
        for (int v : NODES) {
            same(told("now", v), x.now(v), m.now(v));
            same(told("grow", v), x.grow(v), m.grow(v));
            same(told("end", v), x.end(v) ? 1 : 0, m.end(v) ? 1 : 0);
            same("undo", x.undo(), m.undo());
            same(told("feed", v), x.feed(v, v, v, v, v), m.feed(v, v, v, v, v));
        }
        for (int v = -3; v < 125; v++) {
            same(told("order", v), x.order(v), m.order(v));
        }
        renew();
    }

    private long modelNode(int node, int what) {
        try {
            return m.node(node, what);
        } catch (NoSuchElementException e) {
            return Settled.THROWS;
        }
    }

    private void ofTwoNodes() {
        for (int a : NODES) {
            for (int b : NODES) {
                same(told("node", a, b), Settled.node(x, a, b), modelNode(a, b));
                same(told("value", a, b), x.value(a, b), m.value(a, b));
                same(told("move", a, b), x.move(a, b) ? 1 : 0, m.move(a, b) ? 1 : 0);
                same(told("value", 0, 0), x.value(0, 0), m.value(0, 0));
                same(told("node", a, 3), Settled.node(x, a, 3), modelNode(a, 3));
            }
        }
        renew();
    }

    private void ofFactors() {
        for (int leaf : NODES) {
            for (int scene : SCENES) {
                for (int factor : FACTORS) {
                    same(told("factor", leaf, scene, factor), x.factor(leaf, scene, factor),
                            m.factor(leaf, scene, factor));
                    for (int v : NUMBERS) {
                        same(told("would", leaf, scene, factor, v), x.would(leaf, scene, factor, v),
                                m.would(leaf, scene, factor, v));
                        same(told("set", leaf, scene, factor, v), x.set(leaf, scene, factor, v),
                                m.set(leaf, scene, factor, v));
                    }
                }
                for (int v : AMOUNTS) {
                    same(told("needs", leaf, scene, v), x.needs(leaf, scene, v), m.needs(leaf, scene, v));
                }
            }
        }
        renew();
    }

    private void ofScenes() {
        for (int a : SCENES) {
            for (int b : SCENES) {
                for (int node : NODES) {
                    same(told("how", node, a, b), x.how(node, a, b), m.how(node, a, b));
                    same(told("mix", node, a, b), x.mix(node, a, b), m.mix(node, a, b));
                    same(told("mover", a, b, node), x.mover(a, b, node), m.mover(a, b, node));
                    for (int k : EFFECTS) {
                        same(told("flatters", node, a, b, k), x.flatters(node, a, b, k), m.flatters(node, a, b, k));
                    }
                }
                same(told("branch", a, b), x.branch(a, b), m.branch(a, b));
            }
        }
        for (int a : SCENES) {
            for (int b : SCENES) {
                same(told("copy", a, b), x.copy(a, b), m.copy(a, b));
                same("value behind it", x.value(0, 0), m.value(0, 0));
                same("undo", x.undo(), m.undo());
            }
        }
        renew();
    }

    private void ofEffects() {
        for (int node : NODES) {
            for (int a : SCENES) {
                for (int b : SCENES) {
                    for (int order : ORDERS) {
                        for (int k : EFFECTS) {
                            same(told("effect", node, a, b, order, k), x.effect(node, a, b, order, k),
                                    m.effect(node, a, b, order, k));
                        }
                    }
                }
            }
        }
        renew();
    }
}
