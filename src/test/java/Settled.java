import java.util.NoSuchElementException;
import java.util.function.Supplier;

/**
 * Objects in told states, and all that can be seen of them: a refused call must leave it as it was. Each
 * refused call has an object of its own, compared with one that never had the call.
 */
final class Settled {
    /** What a call of node() counts that throws NoSuchElementException. */
    static final long THROWS = Long.MIN_VALUE;

    private static final String USUAL = "scenes 3;group 0;line 1;group 1;line 3;group 0;line 0;"
            + "set 2 0 10 50 30 100 100;set 4 1 12 60 30 100 80;set 6 0 1 2 3 4 50;set 6 1 1 2 9 4 50;";

    // Of usual(): what is just beyond, far beyond, and what a shift by 32 would take for another one.
    static final int[] NO_NODES = {Integer.MIN_VALUE, -32, -2, -1, 8, 9, 15, 16, 19, 20, 31, 32, 34, 64,
        Integer.MAX_VALUE};
    static final int[] GROUPS = {0, 1, 3, 5};
    static final int[] LEAVES = {2, 4, 6, 7};
    static final int[] NO_SCENES = {Integer.MIN_VALUE, -1, 3, 4, Integer.MAX_VALUE};
    static final int[] NO_FACTORS = {Integer.MIN_VALUE, -1, 5, 6, Integer.MAX_VALUE};

    static final int[] LEAST = {0, 0, 0, 1, 10};
    static final int[] MOST = {999, 999, 999, 200, 100};

    private Settled() {
    }

    interface Call {
        long on(VarianceBridge x);
    }

    /**
     * Three scenes, nodes 0 to 7 (the groups 0, 1, 3, 5), one act of each kind to be undone, a text with
     * FAULT 2 behind it, and the tape 'scenes '.
     */
    static VarianceBridge usual() {
        VarianceBridge x = Check.made(USUAL);
        x.set(2, 0, 1, 51);
        x.copy(0, 2);
        x.move(2, 5);
        x.grow(3);
        Check.readText(x, "scenes 9;");
        Check.feedBytes(x, Check.bytesOf("scenes "));
        return x;
    }

    /** 20 nodes (1 to 14 groups, 15 to 19 leaves of one scene), ten acts to be undone, 640 bytes. */
    static VarianceBridge full() {
        VarianceBridge x = Check.made("scenes 1;" + "group 0;".repeat(14) + "line 14;");
        for (int v = 1; v <= 8; v++) {
            x.set(15, 0, v % 3, v);
        }
        for (int group = 0; group < 4; group++) {
            x.grow(group);
        }
        Check.readText(x, "scenes 1;7");
        Check.feedBytes(x, Check.bytesOf("scenes 1;line 0;" + " ".repeat(640 - 16)));
        return x;
    }

    static void refused(String call, long want, Call made) {
        refusedOf(Settled::usual, call, want, made);
    }

    static void refusedWhenFull(String call, long want, Call made) {
        refusedOf(Settled::full, call, want, made);
    }

    static void refusedWhenNew(String call, long want, Call made) {
        refusedOf(VarianceBridge::new, call, want, made);
    }

    static void refusedOf(Supplier<VarianceBridge> state, String call, long want, Call made) {
        VarianceBridge x = state.get();
        Check.due(call, made.on(x), want);
        Check.dueText("what " + call + " leaves", story(x), story(state.get()));
    }

    static long node(VarianceBridge x, int node, int what) {
        try {
            return x.node(node, what);
        } catch (NoSuchElementException e) {
            return THROWS;
        }
    }

    /** All that can be seen, then all undone and seen again, then the tape read: some 300 calls. */
    static String story(VarianceBridge x) {
        StringBuilder told = new StringBuilder();
        told.append(seen(x)).append(" undone");
        for (int i = 0; i < 12; i++) {
            told.append(' ').append(x.undo());
        }
        told.append(seen(x));
        if (!x.end(600)) {
            x.feed(0x323b2020, 0x20202020, 0x20202020, 0x20202020, 0x20202020);
        }
        told.append(" read ").append(x.text()).append(' ').append(x.fault());
        return told.append(' ').append(x.now(0)).append(' ').append(x.now(1)).toString();
    }

    static String seen(VarianceBridge x) {
        StringBuilder told = new StringBuilder(" now");
        for (int what = 0; what < 5; what++) {
            told.append(' ').append(x.now(what));
        }
        told.append(" fault ").append(x.fault());
        int nodes = Math.min(x.now(1), 20);
        int scenes = Math.min(x.now(0), 4);
        for (int n = 0; n < nodes; n++) {
            told.append(" node ").append(n).append(':');
            for (int what = 0; what < 4; what++) {
                told.append(' ').append(node(x, n, what));
            }
            boolean leaf = node(x, n, 1) == 0;
            for (int i = 0; leaf && i < 5 * scenes; i++) {
                told.append(' ').append(x.factor(n, i / 5, i % 5));
            }
        }
        return told.toString();
    }
}
