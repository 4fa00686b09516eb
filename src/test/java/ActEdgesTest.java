import java.util.ArrayList;
import java.util.List;

/** The boundary cases of promises 19 to 23. */
public final class ActEdgesTest {
    private static final int MIN = Integer.MIN_VALUE;
    private static final int MAX = Integer.MAX_VALUE;

    public static void main(String[] args) {
        setLeastAndMost();
        setToWhatItIs();
        setRefused();
        copyOfNoneAndAll();
        copyBehindAnotherText();
        copyRefused();
        moveTaken();
        moveRefused();
        growUntilFull();
        growInTheDeepestGroup();
        growRefused();
        undoOfTheFirstLeaf();
        undoOfNone();
        undoOfTenAtMost();
        undoRoundTheRing();
        undoGivesBackAll();
        undoBehindATextAndAFault();
        refusedActsAreNotUndone();
        Check.finish("ActEdgesTest");
    }

    // Promise 19.

    private static void setLeastAndMost() {
        for (int leaf : Settled.LEAVES) {
            for (int scene = 0; scene < 3; scene++) {
                for (int k = 0; k < 5; k++) {
                    VarianceBridge x = Settled.usual();
                    int was = x.factor(leaf, scene, k);
                    Check.due("set the most", x.set(leaf, scene, k, Settled.MOST[k]), was);
                    Check.due("it is the most", x.factor(leaf, scene, k), Settled.MOST[k]);
                    Check.due("set the least", x.set(leaf, scene, k, Settled.LEAST[k]), Settled.MOST[k]);
                    Check.due("it is the least", x.factor(leaf, scene, k), Settled.LEAST[k]);
                    Check.due("undo", x.undo(), 5);
                    Check.due("the most again", x.factor(leaf, scene, k), Settled.MOST[k]);
                    Check.due("undo", x.undo(), 4);
                    Check.dueText("all as it was", Settled.story(x), Settled.story(Settled.usual()));
                }
            }
        }
    }

    private static void setToWhatItIs() {
        for (int k = 0; k < 5; k++) {
            VarianceBridge x = Settled.usual();
            int is = x.factor(6, 0, k);
            Check.due("what it is", x.set(6, 0, k, is), is);
            Check.due("it is done", x.now(3), 5);
            Check.due("and undone", x.undo(), 4);
            Check.dueText("all as it was", Settled.story(x), Settled.story(Settled.usual()));
        }
    }

    private static void setRefused() {
        for (int leaf : Settled.NO_NODES) {
            Settled.refused("set of " + leaf, -1, x -> x.set(leaf, 0, 0, 50));
        }
        for (int group : Settled.GROUPS) {
            Settled.refused("set of group " + group, -1, x -> x.set(group, 0, 0, 50));
        }
        for (int leaf : Settled.LEAVES) {
            for (int scene : Settled.NO_SCENES) {
                Settled.refused("set in scene " + scene, -1, x -> x.set(leaf, scene, 0, 50));
            }
            for (int k : Settled.NO_FACTORS) {
                Settled.refused("set of factor " + k, -1, x -> x.set(leaf, 0, k, 50));
            }
            for (int k = 0; k < 5; k++) {
                int factor = k;
                for (int v : new int[] {MIN, -1000, Settled.LEAST[k] - 1, Settled.MOST[k] + 1, 10000, MAX}) {
                    Settled.refused("set of " + k + " to " + v, -1, x -> x.set(leaf, 2, factor, v));
                }
            }
        }
        Settled.refusedWhenFull("set of 20", -1, x -> x.set(20, 0, 0, 1));
        Settled.refusedWhenFull("set to 1000", -1, x -> x.set(19, 0, 0, 1000));
        Settled.refusedWhenNew("set of the top", -1, x -> x.set(0, 0, 0, 1));
    }

    // Promise 20.

    private static void copyOfNoneAndAll() {
        VarianceBridge x = Check.made("scenes 4;" + "line 0;".repeat(15));
        for (int n = 1; n < 20; n++) {
            if (n > 15) {
                x.grow(0);
            }
            for (int k = 0; k < 5; k++) {
                x.set(n, 3, k, Settled.LEAST[k] + n);
            }
        }
        Check.due("all alike: none", x.copy(1, 2), 0);
        Check.due("that is done, too", x.now(3), 10);
        Check.due("all FACTORS of 19 leaves", x.copy(3, 0), 95);
        Check.due("and once more: none", x.copy(3, 0), 0);
        for (int n = 1; n < 20; n++) {
            for (int k = 0; k < 5; k++) {
                Check.due("copied", x.factor(n, 0, k), Settled.LEAST[k] + n);
            }
            Check.due("the scene beside it", x.factor(n, 1, 0), 0);
        }
        Check.due("the one that was none", x.undo(), 9);
        Check.due("is still copied", x.factor(19, 0, 4), 29);
        Check.due("the one that was all", x.undo(), 8);
        Check.due("is no longer", x.factor(19, 0, 4), 100);
        Check.due("nor the first", x.factor(1, 0, 0), 0);
        Check.due("what was copied from stays", x.factor(19, 3, 4), 29);
        VarianceBridge y = Check.made("scenes 4;group 0;");
        Check.due("no leaves", y.copy(3, 0), 0);
        Check.due("it is done", y.undo(), 0);
        // One FACTOR of one leaf, each.
        for (int k = 0; k < 5; k++) {
            VarianceBridge z = Check.made("scenes 2;line 0;line 0;");
            z.set(2, 1, k, 55);
            Check.due("one FACTOR", z.copy(0, 1), 1);
            Check.due("as in 0", z.factor(2, 1, k), k < 3 ? 0 : 100);
            Check.due("the other way: none", z.copy(1, 0), 0);
        }
    }

    /** Where an earlier text had a line, a group has no FACTORS that could be others. */
    private static void copyBehindAnotherText() {
        VarianceBridge x = Check.made("scenes 2;line 0;line 0;set 1 0 9 9 9 9 99;set 2 1 8 8 8 8 88;");
        Check.readText(x, "scenes 2;group 0;line 0;");
        Check.due("none", x.copy(0, 1), 0);
        Check.due("none, back", x.copy(1, 0), 0);
        x.set(2, 1, 4, 50);
        Check.due("one", x.copy(1, 0), 1);
    }

    private static void copyRefused() {
        for (int scene : Settled.NO_SCENES) {
            Settled.refused("copy from " + scene, -1, x -> x.copy(scene, 0));
            Settled.refused("copy to " + scene, -1, x -> x.copy(0, scene));
            Settled.refused("copy of " + scene, -1, x -> x.copy(scene, scene));
        }
        for (int n = 0; n < 3; n++) {
            int scene = n;
            Settled.refused("copy to itself " + scene, -1, x -> x.copy(scene, scene));
        }
        Settled.refusedWhenNew("copy of one scene", -1, x -> x.copy(0, 0));
        Settled.refusedWhenFull("copy of one scene", -1, x -> x.copy(0, 0));
    }

    // Promise 21.

    /** Every NODE to every group: what is taken, what not, and the tree behind it. */
    private static void moveTaken() {
        int[] parents = {-1, 0, 5, 1, 3, 0, 0, 3};
        boolean[] groups = {true, true, false, true, false, true, false, false};
        for (int node = 0; node < 8; node++) {
            for (int group = 0; group < 8; group++) {
                boolean below = false;
                for (int up = group; up != -1; up = parents[up]) {
                    below |= up == node;
                }
                boolean due = node != 0 && groups[group] && parents[node] != group && !below;
                String name = "move(" + node + ", " + group + ")";
                if (!due) {
                    int moved = node;
                    int to = group;
                    Settled.refused(name, 0, x -> x.move(moved, to) ? 1 : 0);
                    continue;
                }
                VarianceBridge x = Settled.usual();
                Check.due(name, x.move(node, group), true);
                for (int n = 0; n < 8; n++) {
                    int want = n == node ? group : parents[n];
                    Check.due(name + ": parent of " + n, Settled.node(x, n, 0), want);
                }
                Check.due(name + ": value of the top", x.value(0, 0), 204);
                Check.due(name + ": undoable", x.now(3), 5);
                Check.due(name + ": back at once", x.move(node, group), false);
                Check.due(name + ": undo", x.undo(), 4);
                Check.dueText(name + " undone", Settled.story(x), Settled.story(Settled.usual()));
            }
        }
    }

    private static void moveRefused() {
        for (int n : Settled.NO_NODES) {
            for (int group : Settled.GROUPS) {
                Settled.refused("move of " + n, 0, x -> x.move(n, group) ? 1 : 0);
            }
            for (int node = 0; node < 8; node++) {
                int moved = node;
                Settled.refused("move to " + n, 0, x -> x.move(moved, n) ? 1 : 0);
            }
            Settled.refused("move of and to " + n, 0, x -> x.move(n, n) ? 1 : 0);
        }
        Settled.refusedWhenFull("move of 20", 0, x -> x.move(20, 1) ? 1 : 0);
        Settled.refusedWhenFull("move to 20", 0, x -> x.move(1, 20) ? 1 : 0);
        Settled.refusedWhenFull("move to a leaf", 0, x -> x.move(1, 19) ? 1 : 0);
        VarianceBridge x = Settled.full();
        Check.due("the last node into the last group", x.move(19, 14), true);
        // A chain of all groups, built from above: none can go below itself, however deep.
        VarianceBridge y = Check.made("scenes 1;" + "group 0;".repeat(15));
        for (int n = 15; n > 1; n--) {
            Check.due("into the next", y.move(n - 1, n), true);
        }
        for (int n = 1; n < 15; n++) {
            Check.due("the uppermost into " + n, y.move(15, n), false);
            Check.due("the one above into " + n, y.move(n + 1, n), false);
        }
        Check.due("the lowest to the top", y.move(1, 0), true);
        Check.due("the uppermost into it", y.move(15, 1), true);
        Check.due("right below the top", Settled.node(y, 0, 2), 2);
    }

    // Promise 22.

    private static void growUntilFull() {
        for (int told = 0; told <= 15; told++) {
            VarianceBridge x = Check.made("scenes 4;" + "group 0;".repeat(told));
            for (int n = told + 1; n < 20; n++) {
                int group = Math.min(n - told - 1, told);
                Check.due("grow", x.grow(group), n);
                Check.due("nodes", x.now(1), n + 1);
                Check.due("its parent", Settled.node(x, n, 0), group);
                Check.due("a leaf", Settled.node(x, n, 1), 0);
            }
            Check.due("there are 20", x.grow(0), -2);
            Check.due("there are 20", x.grow(told), -2);
            Check.due("no such group", x.grow(told + 1), -1);
            Check.due("no such group", x.grow(-1), -1);
            Check.due("no such group", x.grow(20), -1);
            Check.due("nodes", x.now(1), 20);
            Check.due("undone: there are 19", x.undo() >= 0 ? x.now(1) : -1, 19);
            Check.due("so one more can come", x.grow(told), 19);
            Check.due("and none then", x.grow(told), -2);
        }
        // A new leaf has the FACTORS of one without 'set' in every SCENE, also where another one was.
        VarianceBridge x = Check.made("scenes 4;group 0;");
        x.grow(1);
        for (int scene = 0; scene < 4; scene++) {
            x.set(2, scene, scene, 150);
        }
        for (int i = 0; i < 5; i++) {
            x.undo();
        }
        x.grow(0);
        for (int i = 0; i < 20; i++) {
            Check.due("of the new one", x.factor(2, i / 5, i % 5), i % 5 < 3 ? 0 : 100);
        }
    }

    /** Fifteen groups, one below the other, and a leaf in the lowest: no tree goes deeper. */
    private static void growInTheDeepestGroup() {
        StringBuilder deep = new StringBuilder("scenes 2;");
        for (int n = 0; n < 15; n++) {
            deep.append("group ").append(n).append(';');
        }
        VarianceBridge x = Check.made(deep.toString());
        Check.due("grow", x.grow(15), 16);
        x.set(16, 1, 0, 3);
        x.set(16, 1, 1, 4);
        for (int n = 0; n <= 16; n++) {
            Check.due("leaves below " + n, Settled.node(x, n, 3), 1 << 16);
            Check.due("value of " + n, x.value(n, 1), 12);
            Check.due("new below " + n, x.effect(n, 0, 1, -1, 5), 12);
        }
        Check.due("the leaf is below the top", x.now(2), 1);
        Check.due("the first mover", x.mover(0, 1, 0), 16);
        Check.due("the first group", x.branch(0, 1), 1);
        Check.due("the uppermost into the lowest", x.move(1, 15), false);
        Check.due("the leaf to the top", x.move(16, 0), true);
        Check.due("none below the uppermost", Settled.node(x, 1, 3), 0);
    }

    private static void growRefused() {
        for (int n : Settled.NO_NODES) {
            Settled.refused("grow of " + n, -1, x -> x.grow(n));
            Settled.refusedWhenNew("grow of " + n, -1, x -> x.grow(n));
        }
        for (int leaf : Settled.LEAVES) {
            Settled.refused("grow of a leaf " + leaf, -1, x -> x.grow(leaf));
        }
        for (int n = 0; n < 20; n++) {
            int group = n;
            Settled.refusedWhenFull("grow of " + n, n < 15 ? -2 : -1, x -> x.grow(group));
        }
        for (int n : new int[] {MIN, -1, 20, 21, 32, MAX}) {
            Settled.refusedWhenFull("grow of " + n, -1, x -> x.grow(n));
        }
    }

    // Promise 23.

    /** The top had been alone, and is alone again. */
    private static void undoOfTheFirstLeaf() {
        VarianceBridge x = new VarianceBridge();
        Check.due("grow", x.grow(0), 1);
        Check.due("a leaf", Settled.node(x, 0, 3), 2);
        Check.due("undo", x.undo(), 0);
        Check.due("nodes", x.now(1), 1);
        Check.due("no node 1", Settled.node(x, 1, 1), Settled.THROWS);
        Check.due("nothing below the top", Settled.node(x, 0, 2), 0);
        Check.dueText("as new", Settled.story(x), Settled.story(new VarianceBridge()));
    }

    private static void undoOfNone() {
        Settled.refusedWhenNew("undo", -1, VarianceBridge::undo);
        VarianceBridge x = Settled.usual();
        for (int left = 3; left >= 0; left--) {
            Check.due("undo", x.undo(), left);
        }
        String before = Settled.seen(x);
        Check.due("none is left", x.undo(), -1);
        Check.due("none is left", x.undo(), -1);
        Check.dueText("all as it was", Settled.seen(x), before);
        x.set(2, 0, 0, 77);
        Check.due("one more act, undone", x.undo(), 0);
        Check.due("units", x.factor(2, 0, 0), 10);
        Check.due("none is left", x.undo(), -1);
    }

    /** Acts of every kind in turn; of a leaf that has grown the next acts are not on it. */
    private static void act(VarianceBridge x, int i) {
        switch (i % 7) {
            case 0:
                x.set(3, 0, 0, 100 + i);
                break;
            case 1:
                x.copy(0, 1);
                break;
            case 2:
                x.move(3, Settled.node(x, 3, 0) == 1 ? 2 : 1);
                break;
            case 3:
                x.grow(2);
                break;
            case 4:
                x.set(3, 1, 4, 10 + i);
                break;
            case 5:
                x.move(2, Settled.node(x, 2, 0) == 0 ? 1 : 0);
                x.undo();
                x.set(3, 0, 1, i);
                break;
            default:
                x.copy(1, 0);
                break;
        }
    }

    private static String look(VarianceBridge x) {
        return " " + x.now(1) + " " + Settled.node(x, 2, 0) + " " + Settled.node(x, 3, 0) + " " + x.factor(3, 0, 0)
                + " " + x.factor(3, 0, 1) + " " + x.factor(3, 0, 4) + " " + x.factor(3, 1, 0) + " "
                + x.factor(3, 1, 4);
    }

    /** For each number of acts up to 24: the last ten can be undone, one by one, and no eleventh. */
    private static void undoOfTenAtMost() {
        for (int acts = 0; acts <= 24; acts++) {
            VarianceBridge x = Check.made("scenes 2;group 0;group 0;line 1;set 3 0 1 2 3 4 50;");
            List<String> looks = new ArrayList<>();
            looks.add(look(x));
            for (int i = 0; i < acts; i++) {
                act(x, i);
                looks.add(look(x));
                Check.due("undoable behind " + (i + 1), x.now(3), Math.min(i + 1, 10));
            }
            int kept = Math.min(acts, 10);
            for (int i = 1; i <= kept; i++) {
                Check.due("undo " + i + " of " + acts, x.undo(), kept - i);
                Check.due("undoable", x.now(3), kept - i);
                Check.dueText("behind undo " + i + " of " + acts, look(x), looks.get(acts - i));
            }
            Check.due("no more than ten of " + acts, x.undo(), -1);
            Check.dueText("behind the last undo of " + acts, look(x), looks.get(acts - kept));
        }
    }

    /** Some acts, some undone, and so on: where what is kept begins goes round and round. */
    private static void undoRoundTheRing() {
        for (int step = 1; step <= 12; step++) {
            VarianceBridge x = Check.made("scenes 1;line 0;");
            List<Integer> units = new ArrayList<>();
            int kept = 0;
            int v = 0;
            for (int round = 0; round < 6; round++) {
                for (int i = 0; i < step; i++) {
                    units.add(x.factor(1, 0, 0));
                    v++;
                    x.set(1, 0, 0, v);
                    kept = Math.min(kept + 1, 10);
                }
                int back = step / 2 + round % 2;
                for (int i = 0; i < back; i++) {
                    boolean can = kept > 0;
                    Check.due("undo of steps of " + step, x.undo(), can ? kept - 1 : -1);
                    if (can) {
                        kept--;
                        Check.due("units", x.factor(1, 0, 0), units.remove(units.size() - 1));
                    }
                }
                Check.due("undoable", x.now(3), kept);
            }
        }
    }

    private static void undoGivesBackAll() {
        // A leaf grows, is set, moved, copied over, and all of it goes with it.
        VarianceBridge x = Settled.usual();
        Check.due("grow", x.grow(1), 8);
        Check.due("set", x.set(8, 0, 0, 9), 0);
        Check.due("move", x.move(8, 5), true);
        // Of 2 units, price, cost; of 4 these and the yield; of 6 the cost; of 8 the units.
        Check.due("copy", x.copy(0, 1), 9);
        Check.due("move a group over it", x.move(5, 3), true);
        Check.due("undoable", x.now(3), 9);
        for (int left = 8; left >= 4; left--) {
            Check.due("undo", x.undo(), left);
        }
        Check.due("no node 8", Settled.node(x, 8, 0), Settled.THROWS);
        Check.due("no factors of 8", x.factor(8, 0, 0), -1);
        Check.due("no value of 8", x.value(8, 0), Check.NO_AMOUNT);
        Check.due("no how of 8", x.how(8, 0, 1), -1);
        Check.due("no needs of 8", x.needs(8, 0, 0), -1);
        Check.due("no set of 8", x.set(8, 0, 0, 1), -1);
        Check.due("no move of 8", x.move(8, 0), false);
        Check.dueText("all as it was", Settled.story(x), Settled.story(Settled.usual()));
    }

    private static void undoBehindATextAndAFault() {
        VarianceBridge x = Settled.full();
        Check.due("ten", x.now(3), 10);
        Check.readText(x, "scenes 1;line 0;line");
        Check.due("a fault leaves them", x.now(3), 10);
        Check.due("undo", x.undo(), 9);
        Check.due("nodes", x.now(1), 19);
        Check.readText(x, "scenes 1;line 0;");
        Check.due("a new text: none", x.now(3), 0);
        Check.due("undo", x.undo(), -1);
        Check.due("nodes", x.now(1), 2);
        x.set(1, 0, 0, 5);
        Check.due("one behind it", x.now(3), 1);
        Check.due("undo", x.undo(), 0);
        Check.due("undo", x.undo(), -1);
        Check.due("units", x.factor(1, 0, 0), 0);
    }

    /** Refused acts between those that are done: only the done ones are undone. */
    private static void refusedActsAreNotUndone() {
        VarianceBridge x = Check.made("scenes 2;group 0;group 1;line 2;");
        x.set(3, 0, 0, 7);
        Check.due("set", x.set(3, 0, 0, 1000), -1);
        Check.due("copy", x.copy(0, 0), -1);
        Check.due("move", x.move(1, 2), false);
        Check.due("move to where it is", x.move(2, 1), false);
        Check.due("grow", x.grow(3), -1);
        x.set(3, 0, 0, 8);
        Check.due("feed", x.feed(0, 0, 0, 0, 0), 20);
        Check.due("end", x.end(0), true);
        Check.due("would", x.would(3, 0, 1, 5), 40);
        Check.due("undoable", x.now(3), 2);
        Check.due("undo", x.undo(), 1);
        Check.due("units", x.factor(3, 0, 0), 7);
        Check.due("undo", x.undo(), 0);
        Check.due("units", x.factor(3, 0, 0), 0);
        Check.due("undo", x.undo(), -1);
    }
}
