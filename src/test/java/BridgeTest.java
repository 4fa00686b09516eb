/** Promises 7 to 18: what is asked of the tree and of two SCENES. */
public final class BridgeTest {
    private static final int NO_AMOUNT = Check.NO_AMOUNT;

    /** 1 group of 2 and 3, 4 beside it, 5 an empty group, 6 a group in 1 with the line 7. */
    private static final String TREE = "scenes 2;group 0;line 1;line 1;line 0;group 0;group 1;line 6;"
            + "set 2 0 10 50 30 100 100;set 2 1 12 60 30 100 80;"
            + "set 3 0 20 40 20 100 100;"
            + "set 4 1 5 70 20 100 100;"
            + "set 7 0 3 7 5 33 77;set 7 1 4 9 2 150 60;";

    public static void main(String[] args) {
        node();
        factor();
        value();
        how();
        order();
        effectByOrder();
        effectByMean();
        effectOfOthers();
        mix();
        flatters();
        mover();
        branch();
        would();
        needs();
        Check.finish("BridgeTest");
    }

    private static void node() {
        VarianceBridge x = Check.made(TREE);
        int[] parents = {-1, 0, 1, 1, 0, 0, 1, 6};
        int[] groups = {1, 1, 0, 0, 0, 1, 1, 0};
        int[] right = {1 << 1 | 1 << 4 | 1 << 5, 1 << 2 | 1 << 3 | 1 << 6, 0, 0, 0, 0, 1 << 7, 0};
        int[] leaves = {4 | 8 | 16 | 128, 4 | 8 | 128, 4, 8, 16, 0, 128, 128};
        for (int n = 0; n < 8; n++) {
            Check.due("parent of " + n, x.node(n, 0), parents[n]);
            Check.due("group " + n, x.node(n, 1), groups[n]);
            Check.due("right below " + n, x.node(n, 2), right[n]);
            Check.due("leaves below " + n, x.node(n, 3), leaves[n]);
        }
        Check.dueThrow(x, 8, 0);
        Check.dueThrow(x, -1, 0);
        Check.dueThrow(x, 0, 4);
        Check.dueThrow(x, 0, -1);
        Check.dueThrow(x, Integer.MAX_VALUE, Integer.MIN_VALUE);
        Check.dueThrow(x, 19, 0);
        Check.dueThrow(x, 20, 0);
    }

    private static void factor() {
        VarianceBridge x = Check.made(TREE);
        int[] told = {4, 9, 2, 150, 60};
        for (int k = 0; k < 5; k++) {
            Check.due("factor " + k, x.factor(7, 1, k), told[k]);
        }
        Check.due("usual rate", x.factor(3, 1, 3), 100);
        Check.due("usual yield", x.factor(3, 1, 4), 100);
        Check.due("usual units", x.factor(3, 1, 0), 0);
        Check.due("of a group", x.factor(1, 0, 0), -1);
        Check.due("of no node", x.factor(8, 0, 0), -1);
        Check.due("of node -1", x.factor(-1, 0, 0), -1);
        Check.due("in no scene", x.factor(2, 2, 0), -1);
        Check.due("in scene -1", x.factor(2, -1, 0), -1);
        Check.due("factor 5", x.factor(2, 0, 5), -1);
        Check.due("factor -1", x.factor(2, 0, -1), -1);
    }

    private static void value() {
        VarianceBridge x = Check.made(TREE);
        // 7: 3 * (2 - 6) and 4 * (13 - 3); 2: 10 * 20 and 12 * (60 - 37).
        Check.due("7 in 0", x.value(7, 0), -12);
        Check.due("7 in 1", x.value(7, 1), 40);
        Check.due("2 in 0", x.value(2, 0), 200);
        Check.due("2 in 1", x.value(2, 1), 276);
        Check.due("6 in 1", x.value(6, 1), 40);
        Check.due("1 in 0", x.value(1, 0), 200 + 400 - 12);
        Check.due("1 in 1", x.value(1, 1), 276 + 40);
        Check.due("top in 0", x.value(0, 0), 588);
        Check.due("top in 1", x.value(0, 1), 316 + 250);
        Check.due("empty group", x.value(5, 1), 0);
        Check.due("no node", x.value(8, 0), NO_AMOUNT);
        Check.due("node -1", x.value(-1, 0), NO_AMOUNT);
        Check.due("no scene", x.value(0, 2), NO_AMOUNT);
        Check.due("scene -1", x.value(0, -1), NO_AMOUNT);
        VarianceBridge y = Check.made("scenes 1;line 0;line 0;set 1 0 999 999 0 200 100;set 2 0 999 0 999 1 10;");
        Check.due("greatest", y.value(1, 0), 999 * 1998);
        Check.due("least", y.value(2, 0), -999 * 9990);
    }

    private static void how() {
        VarianceBridge x = Check.made(TREE);
        Check.due("2 stays", x.how(2, 0, 1), 0);
        Check.due("3 ended", x.how(3, 0, 1), 2);
        Check.due("3 new", x.how(3, 1, 0), 1);
        Check.due("4 new", x.how(4, 0, 1), 1);
        Check.due("from a scene to itself", x.how(4, 1, 1), 0);
        VarianceBridge y = Check.made("scenes 2;line 0;set 1 0 0 5 0 100 100;set 1 1 0 9 0 100 100;");
        Check.due("0 in both stays", y.how(1, 0, 1), 0);
        Check.due("a group", x.how(1, 0, 1), -1);
        Check.due("no node", x.how(8, 0, 1), -1);
        Check.due("no scene a", x.how(2, 2, 1), -1);
        Check.due("no scene b", x.how(2, 0, 2), -1);
        Check.due("scene -1", x.how(2, -1, 0), -1);
    }

    private static void order() {
        VarianceBridge x = new VarianceBridge();
        int at = 0;
        for (int digits = 1234; digits <= 43210; digits++) {
            if (isOrder(digits)) {
                Check.due("order " + at, x.order(at), digits);
                at++;
            }
        }
        Check.due("orders", at, 120);
        Check.due("order(-1)", x.order(-1), -1);
        Check.due("order(120)", x.order(120), -1);
        Check.due("order(max)", x.order(Integer.MAX_VALUE), -1);
        Check.due("order(min)", x.order(Integer.MIN_VALUE), -1);
    }

    private static boolean isOrder(int digits) {
        int seen = 0;
        int rest = digits;
        for (int i = 0; i < 5; i++) {
            seen |= 1 << rest % 10;
            rest /= 10;
        }
        return seen == 31;
    }

    private static void effectByOrder() {
        VarianceBridge x = Check.made("scenes 2;line 0;set 1 0 7 11 5 33 77;set 1 1 4 13 2 150 60;");
        // Order 0: units 7 to 4 of (3 - 6), price to 13 (4), cost to 2 (2), rate to 150 (19), yield to 60 (3).
        int[] byZero = {9, 4, 16, 60, -4, 0, 0, 0};
        // Order 119, yield first: cost 8; rate 150: 16; cost 2: 3; price 13: 19; units 4.
        int[] byLast = {-48, 21, 35, 91, -14, 0, 0, 0};
        int sum = 0;
        for (int k = 0; k < 8; k++) {
            Check.due("effect " + k + " by order 0", x.effect(1, 0, 1, 0, k), byZero[k]);
            Check.due("effect " + k + " by order 119", x.effect(1, 0, 1, 119, k), byLast[k]);
            Check.due("effect " + k + " of the top", x.effect(0, 0, 1, 119, k), byLast[k]);
            Check.due("effect " + k + " from 1 to 1", x.effect(1, 1, 1, 50, k), 0);
            sum += x.effect(1, 0, 1, 73, k);
        }
        Check.due("nothing is left unexplained", sum, x.value(1, 1) - x.value(1, 0));
        Check.due("no node", x.effect(2, 0, 1, 0, 0), NO_AMOUNT);
        Check.due("node -1", x.effect(-1, 0, 1, 0, 0), NO_AMOUNT);
        Check.due("no scene a", x.effect(1, 2, 1, 0, 0), NO_AMOUNT);
        Check.due("no scene b", x.effect(1, 0, 2, 0, 0), NO_AMOUNT);
        Check.due("scene -1", x.effect(1, 0, -1, 0, 0), NO_AMOUNT);
        Check.due("order 120", x.effect(1, 0, 1, 120, 0), NO_AMOUNT);
        Check.due("order -2", x.effect(1, 0, 1, -2, 0), NO_AMOUNT);
        Check.due("effect 8", x.effect(1, 0, 1, 0, 8), NO_AMOUNT);
        Check.due("effect -1", x.effect(1, 0, 1, 0, -1), NO_AMOUNT);
        Check.due("effect 8 of the mean", x.effect(1, 0, 1, -1, 8), NO_AMOUNT);
    }

    private static void effectByMean() {
        String two = "scenes 2;group 0;line 1;line 1;set 2 0 7 11 5 33 77;set 2 1 4 13 2 150 60;"
                + "set 3 0 7 11 5 33 77;set 3 1 4 13 2 150 60;";
        int sum = 0;
        for (int k = 0; k < 5; k++) {
            // A new object for each: nothing is promised beyond 512 calls.
            VarianceBridge each = Check.made(two);
            int all = 0;
            for (int order = 0; order < 120; order++) {
                all += each.effect(2, 0, 1, order, k);
            }
            Check.due("mean effect " + k, each.effect(2, 0, 1, -1, k), all / 120);
            Check.due("of both lines, each cut", each.effect(1, 0, 1, -1, k), all / 120 * 2);
            sum += all / 120;
        }
        VarianceBridge x = Check.made(two);
        int rest = x.value(2, 1) - x.value(2, 0) - sum;
        Check.due("there is a rest", rest != 0, true);
        Check.due("rest", x.effect(2, 0, 1, -1, 7), rest);
        Check.due("rest of the group", x.effect(1, 0, 1, -1, 7), 2 * rest);
        Check.due("rest by an order", x.effect(2, 0, 1, 3, 7), 0);
        Check.due("mean from 0 to 0", x.effect(0, 0, 0, -1, 0), 0);
        // Two factors alone: units 10 to 20, price 3 to 4: means 35 and 15; the other way their negatives.
        VarianceBridge y = Check.made("scenes 2;line 0;set 1 0 10 3 0 100 100;set 1 1 20 4 0 100 100;");
        Check.due("mean of units", y.effect(1, 0, 1, -1, 0), 35);
        Check.due("mean of price", y.effect(1, 0, 1, -1, 1), 15);
        Check.due("mean of units back", y.effect(1, 1, 0, -1, 0), -35);
        // Units 1 to 2, price 1 to 2: 1.5 each, cut towards 0 either way, the rest is 1.
        VarianceBridge z = Check.made("scenes 2;line 0;set 1 0 1 1 0 100 100;set 1 1 2 2 0 100 100;");
        Check.due("cut mean", z.effect(1, 0, 1, -1, 0), 1);
        Check.due("cut mean back", z.effect(1, 1, 0, -1, 0), -1);
        Check.due("rest", z.effect(1, 0, 1, -1, 7), 1);
        Check.due("rest back", z.effect(1, 1, 0, -1, 7), -1);
        VarianceBridge w = Check.made("scenes 2;line 0;set 1 0 999 0 999 1 10;set 1 1 1 999 0 200 100;");
        int most = 0;
        for (int k = 0; k < 8; k++) {
            most += w.effect(1, 0, 1, -1, k);
        }
        Check.due("the greatest difference is explained", most, 1998 + 999 * 9990);
    }

    private static void effectOfOthers() {
        VarianceBridge x = Check.made(TREE);
        int[] orders = {-1, 0, 60, 119};
        for (int order : orders) {
            for (int k = 0; k < 8; k++) {
                Check.due("new " + k, x.effect(4, 0, 1, order, k), k == 5 ? 250 : 0);
                Check.due("new, back " + k, x.effect(4, 1, 0, order, k), k == 6 ? -250 : 0);
                Check.due("ended " + k, x.effect(3, 0, 1, order, k), k == 6 ? -400 : 0);
                Check.due("empty group " + k, x.effect(5, 0, 1, order, k), 0);
                int below = x.effect(2, 0, 1, order, k) + x.effect(3, 0, 1, order, k)
                        + x.effect(7, 0, 1, order, k);
                Check.due("rolled up " + k, x.effect(1, 0, 1, order, k), below);
                Check.due("top " + k, x.effect(0, 0, 1, order, k), below + (k == 5 ? 250 : 0));
            }
        }
    }

    private static void mix() {
        VarianceBridge x = Check.made("scenes 2;group 0;line 1;line 1;line 0;group 0;line 0;line 1;"
                + "set 2 0 10 1 1 100 100;set 2 1 30 1 1 100 100;"
                + "set 3 0 23 1 1 100 100;set 3 1 7 1 1 100 100;"
                + "set 4 0 5 1 1 100 100;set 4 1 50 1 1 100 100;"
                + "set 6 1 100 1 1 100 100;set 7 0 400 1 1 100 100;");
        // Below 1 there stay 33 units in 0, 37 in 1; 6 is new and 7 ended: they count nowhere.
        Check.due("2", x.mix(2, 0, 1), 30 - 37 * 10 / 33);
        Check.due("3", x.mix(3, 0, 1), 7 - 37 * 23 / 33);
        Check.due("1", x.mix(1, 0, 1), 37 - 87 * 33 / 38);
        Check.due("4", x.mix(4, 0, 1), 50 - 87 * 5 / 38);
        Check.due("4 back", x.mix(4, 1, 0), 5 - 38 * 50 / 87);
        Check.due("new", x.mix(6, 0, 1), 0);
        Check.due("ended", x.mix(7, 0, 1), 0);
        Check.due("empty group", x.mix(5, 0, 1), 0);
        Check.due("to itself", x.mix(2, 1, 1), 0);
        Check.due("top", x.mix(0, 0, 1), NO_AMOUNT);
        Check.due("no node", x.mix(8, 0, 1), NO_AMOUNT);
        Check.due("node -1", x.mix(-1, 0, 1), NO_AMOUNT);
        Check.due("no scene a", x.mix(1, 2, 1), NO_AMOUNT);
        Check.due("no scene b", x.mix(1, 0, 2), NO_AMOUNT);
        VarianceBridge y = Check.made("scenes 2;line 0;set 1 1 9 1 1 100 100;");
        Check.due("nothing beside it in a", y.mix(1, 0, 1), 0);
    }

    private static void flatters() {
        VarianceBridge x = Check.made("scenes 2;line 0;set 1 0 10 3 0 100 100;set 1 1 20 4 0 100 100;");
        // Units are worth more behind the price: 1 0 2 3 4 is the first such order.
        Check.due("units", x.flatters(1, 0, 1, 0), 24);
        Check.due("price", x.flatters(1, 0, 1, 1), 0);
        Check.due("cost: all alike", x.flatters(1, 0, 1, 2), 0);
        Check.due("units back", x.flatters(1, 1, 0, 0), 24);
        Check.due("the top", x.flatters(0, 0, 1, 0), 24);
        Check.due("to itself", x.flatters(0, 1, 1, 0), 0);
        Check.due("no node", x.flatters(2, 0, 1, 0), -1);
        Check.due("no scene a", x.flatters(1, 2, 1, 0), -1);
        Check.due("no scene b", x.flatters(1, 0, -1, 0), -1);
        Check.due("effect 5", x.flatters(1, 0, 1, 5), -1);
        Check.due("effect -1", x.flatters(1, 0, 1, -1), -1);
        for (int k = 0; k < 5; k++) {
            VarianceBridge each = Check.made(TREE);
            int best = 0;
            int most = Integer.MIN_VALUE;
            for (int order = 0; order < 120; order++) {
                int gain = each.effect(1, 0, 1, order, k);
                if (gain > most) {
                    most = gain;
                    best = order;
                }
            }
            Check.due("most of 120, " + k, each.flatters(1, 0, 1, k), best);
        }
        VarianceBridge y = Check.made(TREE);
        Check.due("of a new line all alike", y.flatters(4, 0, 1, 0), 0);
    }

    private static void mover() {
        VarianceBridge x = Check.made("scenes 2;line 0;group 0;line 2;line 2;line 0;"
                + "set 1 0 5 0 1 100 100;set 3 1 1 5 0 100 100;set 4 1 9 0 1 100 100;set 5 0 5 1 0 100 100;");
        // Differences: 1: 5, 3: 5, 4: -9, 5: -5.
        int[] movers = {4, 1, 3, 5, -1};
        for (int k = 0; k < movers.length; k++) {
            Check.due("mover " + k, x.mover(0, 1, k), movers[k]);
            Check.due("mover back " + k, x.mover(1, 0, k), movers[k]);
        }
        Check.due("to itself the least number", x.mover(1, 1, 0), 1);
        Check.due("to itself the last", x.mover(1, 1, 3), 5);
        Check.due("mover -1", x.mover(0, 1, -1), -1);
        Check.due("mover max", x.mover(0, 1, Integer.MAX_VALUE), -1);
        Check.due("no scene a", x.mover(2, 1, 0), -1);
        Check.due("no scene b", x.mover(0, -1, 0), -1);
    }

    private static void branch() {
        VarianceBridge x = Check.made("scenes 2;group 0;group 1;group 0;line 2;line 3;line 3;"
                + "set 4 1 3 1 0 100 100;set 5 1 9 1 0 100 100;set 6 1 13 0 1 100 100;");
        // 1 and 2: 3; 3: 9 - 13.
        Check.due("the greatest either way", x.branch(0, 1), 3);
        Check.due("back", x.branch(1, 0), 3);
        x.set(6, 1, 0, 12);
        Check.due("of like ones the lesser number", x.branch(0, 1), 1);
        Check.due("all 0", x.branch(1, 1), 1);
        Check.due("no scene a", x.branch(2, 0), -1);
        Check.due("no scene b", x.branch(0, 2), -1);
        VarianceBridge y = Check.made("scenes 2;line 0;set 1 0 5 5 5 100 50;");
        Check.due("no group but the top", y.branch(0, 1), -2);
        Check.due("no such scenes comes first", y.branch(0, 2), -1);
    }

    private static void would() {
        VarianceBridge x = Check.made(TREE);
        Check.due("units", x.would(7, 1, 0, 10), 60);
        Check.due("price", x.would(7, 1, 1, 0), -4 * 13);
        Check.due("cost", x.would(7, 1, 2, 999), 4 * (3 - 1665));
        Check.due("rate", x.would(7, 1, 3, 200), 4 * (18 - 13));
        Check.due("yield", x.would(7, 1, 4, 10), 4 * (3 - 20));
        Check.due("as it is", x.would(7, 1, 4, 60), 0);
        Check.due("nothing is changed", x.value(0, 1), 566);
        Check.due("nothing to undo", x.now(3), 0);
        Check.due("units -1", x.would(7, 1, 0, -1), NO_AMOUNT);
        Check.due("units 1000", x.would(7, 1, 0, 1000), NO_AMOUNT);
        Check.due("price 1000", x.would(7, 1, 1, 1000), NO_AMOUNT);
        Check.due("cost 1000", x.would(7, 1, 2, 1000), NO_AMOUNT);
        Check.due("rate 0", x.would(7, 1, 3, 0), NO_AMOUNT);
        Check.due("rate 201", x.would(7, 1, 3, 201), NO_AMOUNT);
        Check.due("yield 9", x.would(7, 1, 4, 9), NO_AMOUNT);
        Check.due("yield 101", x.would(7, 1, 4, 101), NO_AMOUNT);
        Check.due("yield 0", x.would(7, 1, 4, 0), NO_AMOUNT);
        Check.due("factor 5", x.would(7, 1, 5, 50), NO_AMOUNT);
        Check.due("factor -1", x.would(7, 1, -1, 50), NO_AMOUNT);
        Check.due("a group", x.would(6, 1, 0, 1), NO_AMOUNT);
        Check.due("no node", x.would(8, 1, 0, 1), NO_AMOUNT);
        Check.due("no scene", x.would(7, 2, 0, 1), NO_AMOUNT);
    }

    private static void needs() {
        VarianceBridge x = Check.made(TREE);
        // In 1: 276 of 2, 250 of 4, and 10 for each unit of 7.
        Check.due("as much as without it", x.needs(7, 1, 526), 0);
        Check.due("far less", x.needs(7, 1, -999999999), 0);
        Check.due("one more", x.needs(7, 1, 527), 1);
        Check.due("just one unit", x.needs(7, 1, 536), 1);
        Check.due("two", x.needs(7, 1, 537), 2);
        Check.due("all", x.needs(7, 1, 526 + 9990), 999);
        Check.due("more than all", x.needs(7, 1, 526 + 9991), -2);
        Check.due("far more", x.needs(7, 1, 999999999), -2);
        Check.due("too great", x.needs(7, 1, 1000000000), -1);
        Check.due("too small", x.needs(7, 1, -1000000000), -1);
        Check.due("max", x.needs(7, 1, Integer.MAX_VALUE), -1);
        Check.due("min", x.needs(7, 1, Integer.MIN_VALUE), -1);
        // In 0 each unit of 7 loses 4, beside 600 of the others.
        Check.due("none is best", x.needs(7, 0, 600), 0);
        Check.due("a loss never helps", x.needs(7, 0, 601), -2);
        Check.due("no margin never helps", x.needs(3, 1, 567), -2);
        Check.due("no margin, enough", x.needs(3, 1, 566), 0);
        Check.due("a group", x.needs(1, 0, 0), -1);
        Check.due("no node", x.needs(8, 0, 0), -1);
        Check.due("no scene", x.needs(7, 2, 0), -1);
        Check.due("nothing is changed", x.value(0, 1), 566);
    }
}
