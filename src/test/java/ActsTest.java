/** Promises 19 to 23: acts, and what undoes them. */
public final class ActsTest {
    private static final String TREE = "scenes 3;group 0;line 1;group 1;line 3;group 0;line 0;"
            + "set 2 0 10 50 30 100 100;set 4 1 12 60 30 100 80;set 6 0 1 2 3 4 50;set 6 1 1 2 9 4 50;";

    public static void main(String[] args) {
        set();
        copy();
        move();
        grow();
        undoEach();
        undoTen();
        undoAcrossGrowth();
        Check.finish("ActsTest");
    }

    private static void set() {
        VarianceBridge x = Check.made(TREE);
        int[] least = {0, 0, 0, 1, 10};
        int[] most = {999, 999, 999, 200, 100};
        int[] was = {1, 2, 3, 4, 50};
        for (int k = 0; k < 5; k++) {
            Check.due("set the least " + k, x.set(6, 0, k, least[k]), was[k]);
            Check.due("set the most " + k, x.set(6, 0, k, most[k]), least[k]);
            Check.due("below " + k, x.set(6, 0, k, least[k] - 1), -1);
            Check.due("above " + k, x.set(6, 0, k, most[k] + 1), -1);
            Check.due("factor " + k, x.factor(6, 0, k), most[k]);
        }
        Check.due("other scenes stay", x.factor(6, 1, 2), 9);
        Check.due("undoable", x.now(3), 10);
        VarianceBridge y = Check.made(TREE);
        Check.due("what it is", y.set(6, 0, 0, 1), 1);
        Check.due("that is done, too", y.now(3), 1);
        Check.due("a group", y.set(1, 0, 0, 1), -1);
        Check.due("the top", y.set(0, 0, 0, 1), -1);
        Check.due("no node", y.set(7, 0, 0, 1), -1);
        Check.due("node -1", y.set(-1, 0, 0, 1), -1);
        Check.due("no scene", y.set(6, 3, 0, 1), -1);
        Check.due("scene -1", y.set(6, -1, 0, 1), -1);
        Check.due("factor 5", y.set(6, 0, 5, 1), -1);
        Check.due("factor -1", y.set(6, 0, -1, 1), -1);
        Check.due("max", y.set(6, 0, 0, Integer.MAX_VALUE), -1);
        Check.due("refused ones are not kept", y.now(3), 1);
    }

    private static void copy() {
        VarianceBridge x = Check.made(TREE);
        // From 0 to 1: of 2 units, price, cost; of 4 units, price, cost, yield; of 6 the cost.
        Check.due("0 to 1", x.copy(0, 1), 8);
        for (int k = 0; k < 5; k++) {
            Check.due("2", x.factor(2, 1, k), x.factor(2, 0, k));
            Check.due("4", x.factor(4, 1, k), x.factor(4, 0, k));
            Check.due("6", x.factor(6, 1, k), x.factor(6, 0, k));
        }
        Check.due("0 stays", x.value(0, 0), 10 * 20 + (0 - 6));
        Check.due("2 stays", x.factor(2, 2, 0), 0);
        Check.due("again", x.copy(0, 1), 0);
        Check.due("both are done", x.now(3), 2);
        Check.due("one scene", x.copy(1, 1), -1);
        Check.due("no scene a", x.copy(3, 1), -1);
        Check.due("no scene b", x.copy(1, 3), -1);
        Check.due("scene -1", x.copy(-1, 0), -1);
        Check.due("scene -1", x.copy(0, -1), -1);
        Check.due("refused ones are not kept", x.now(3), 2);
        Check.due("undo", x.undo(), 1);
        Check.due("undo", x.undo(), 0);
        Check.due("cost of 6", x.factor(6, 1, 2), 9);
        Check.due("yield of 4", x.factor(4, 1, 4), 80);
        VarianceBridge y = Check.made("scenes 2;group 0;");
        Check.due("without leaves", y.copy(0, 1), 0);
    }

    private static void move() {
        VarianceBridge x = Check.made(TREE);
        Check.due("the top", x.move(0, 1), false);
        Check.due("into itself", x.move(1, 1), false);
        Check.due("into one below it", x.move(1, 3), false);
        Check.due("into its parent", x.move(3, 1), false);
        Check.due("into a leaf", x.move(1, 6), false);
        Check.due("into no node", x.move(1, 7), false);
        Check.due("into -1", x.move(1, -1), false);
        Check.due("no node", x.move(7, 1), false);
        Check.due("node -1", x.move(-1, 1), false);
        Check.due("refused ones are not kept", x.now(3), 0);
        Check.due("group 1 into 5", x.move(1, 5), true);
        Check.due("right below the top", x.node(0, 2), 1 << 5 | 1 << 6);
        Check.due("leaves below 5", x.node(5, 3), 1 << 2 | 1 << 4);
        Check.due("value of 5", x.value(5, 0), 200);
        Check.due("5 into 3, far below it", x.move(5, 3), false);
        Check.due("leaf 4 to the top", x.move(4, 0), true);
        Check.due("leaves below 5", x.node(5, 3), 1 << 2);
        Check.due("group 3 to the top", x.move(3, 0), true);
        Check.due("group 5 into 3", x.move(5, 3), true);
        Check.due("leaves below 3", x.node(3, 3), 1 << 2);
        Check.due("undoable", x.now(3), 4);
    }

    private static void grow() {
        VarianceBridge x = Check.made(TREE);
        Check.due("in a leaf", x.grow(2), -1);
        Check.due("in no node", x.grow(7), -1);
        Check.due("in -1", x.grow(-1), -1);
        Check.due("refused ones are not kept", x.now(3), 0);
        for (int n = 7; n < 20; n++) {
            Check.due("grow", x.grow(n % 2 == 0 ? 0 : 3), n);
            Check.due("parent", x.node(n, 0), n % 2 == 0 ? 0 : 3);
            Check.due("is no group", x.node(n, 1), 0);
            Check.due("rate", x.factor(n, 2, 3), 100);
            Check.due("units", x.factor(n, 2, 0), 0);
            Check.due("yield", x.factor(n, 0, 4), 100);
        }
        Check.due("nodes", x.now(1), 20);
        Check.due("leaves", x.now(2), 16);
        Check.due("full", x.grow(0), -2);
        Check.due("no such group comes first", x.grow(2), -1);
        Check.due("no such group comes first", x.grow(20), -1);
        Check.due("the last leaf", x.set(19, 2, 0, 999), 0);
        Check.due("the last leaf", x.set(19, 2, 1, 999), 0);
        Check.due("its value", x.value(0, 2), 999 * 999);
        Check.due("a text takes fewer", x.node(0, 3) >> 19, 1);
    }

    private static void undoEach() {
        VarianceBridge x = Check.made(TREE);
        Check.due("nothing to undo", x.undo(), -1);
        x.set(2, 0, 1, 51);
        x.copy(0, 1);
        x.move(2, 5);
        x.grow(1);
        x.set(7, 2, 4, 10);
        Check.due("undo set", x.undo(), 4);
        Check.due("yield", x.factor(7, 2, 4), 100);
        Check.due("undo grow", x.undo(), 3);
        Check.due("nodes", x.now(1), 7);
        Check.due("right below 1", x.node(1, 2), 1 << 3);
        Check.due("undo move", x.undo(), 2);
        Check.due("parent of 2", x.node(2, 0), 1);
        Check.due("undo copy", x.undo(), 1);
        Check.due("units of 4", x.factor(4, 1, 0), 12);
        Check.due("units of 2", x.factor(2, 1, 0), 0);
        Check.due("price of 2", x.factor(2, 0, 1), 51);
        Check.due("undo set", x.undo(), 0);
        Check.due("price of 2", x.factor(2, 0, 1), 50);
        Check.due("nothing more", x.undo(), -1);
        x.set(2, 0, 1, 52);
        Check.due("an undo is no act", x.now(3), 1);
    }

    private static void undoTen() {
        VarianceBridge x = Check.made(TREE);
        for (int v = 1; v <= 25; v++) {
            x.set(2, 0, 0, 100 + v);
            Check.due("undoable", x.now(3), Math.min(v, 10));
        }
        for (int left = 9; left >= 0; left--) {
            Check.due("undo", x.undo(), left);
            Check.due("units", x.factor(2, 0, 0), 100 + 15 + left);
        }
        Check.due("no eleventh", x.undo(), -1);
        Check.due("units", x.factor(2, 0, 0), 115);
        x.set(2, 0, 0, 1);
        Check.due("undo of a new one", x.undo(), 0);
        Check.due("units", x.factor(2, 0, 0), 115);
    }

    private static void undoAcrossGrowth() {
        VarianceBridge x = Check.made(TREE);
        x.grow(0);
        x.set(7, 0, 0, 5);
        x.move(7, 5);
        x.copy(0, 1);
        for (int i = 0; i < 4; i++) {
            x.undo();
        }
        Check.due("nodes", x.now(1), 7);
        Check.dueThrow(x, 7, 0);
        Check.due("grown anew", x.grow(1), 7);
        Check.due("parent", x.node(7, 0), 1);
        Check.due("units", x.factor(7, 0, 0), 0);
        Check.due("units", x.factor(7, 1, 0), 0);
        Check.due("copied rest", x.factor(4, 1, 0), 12);
    }
}
