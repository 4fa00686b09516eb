/** The boundary cases of promises 7 to 18, and of the terms that they use. */
public final class AskEdgesTest {
    private static final int MIN = Integer.MIN_VALUE;
    private static final int MAX = Integer.MAX_VALUE;
    private static final int NO_AMOUNT = Check.NO_AMOUNT;
    private static final int[] NO_ORDERS = {MIN, -120, -2, 120, 121, 240, MAX};
    private static final int[] NO_EFFECTS = {MIN, -1, 8, 9, MAX};

    public static void main(String[] args) {
        nodeTaken();
        nodeRefused();
        nodeOfFullTree();
        factorTaken();
        factorRefused();
        valueIsCut();
        valueLeastAndMost();
        valueRefused();
        howOfUnits();
        howRefused();
        orderFirstAndLast();
        effectOfSteps();
        effectOfNewAndEnded();
        effectOfMeanIsCut();
        effectOfGreatest();
        effectRefused();
        mixIsCut();
        mixOfNothing();
        mixRefused();
        flattersFirstOfLike();
        flattersLastOrder();
        flattersOfOneAmongOthers();
        flattersRefused();
        moverOfLike();
        moverRefused();
        branchOfLike();
        branchOfNone();
        branchRefused();
        wouldLeastAndMost();
        wouldRefused();
        needsLeastAndMost();
        needsOfLoss();
        needsRefused();
        askingChangesNothing();
        Check.finish("AskEdgesTest");
    }

    /** Two scenes of one line, of each its five FACTORS. */
    private static VarianceBridge line(String inA, String inB) {
        return Check.made("scenes 2;line 0;set 1 0 " + inA + ";set 1 1 " + inB + ";");
    }

    // Promise 7.

    private static void nodeTaken() {
        VarianceBridge x = Settled.usual();
        int[][] due = {
            {-1, 1, 1 << 1 | 1 << 5 | 1 << 6, 1 << 2 | 1 << 4 | 1 << 6 | 1 << 7},
            {0, 1, 1 << 3, 1 << 4 | 1 << 7},
            {5, 0, 0, 1 << 2},
            {1, 1, 1 << 4 | 1 << 7, 1 << 4 | 1 << 7},
            {3, 0, 0, 1 << 4},
            {0, 1, 1 << 2, 1 << 2},
            {0, 0, 0, 1 << 6},
            {3, 0, 0, 1 << 7},
        };
        for (int n = 0; n < 8; n++) {
            for (int what = 0; what < 4; what++) {
                Check.due("node(" + n + ", " + what + ")", Settled.node(x, n, what), due[n][what]);
            }
        }
        VarianceBridge y = Check.made("scenes 1;group 0;");
        Check.due("an empty group: right below", Settled.node(y, 1, 2), 0);
        Check.due("an empty group: leaves", Settled.node(y, 1, 3), 0);
        Check.due("an empty group below the top", Settled.node(y, 0, 2), 2);
        Check.due("is no leaf", Settled.node(y, 0, 3), 0);
        Check.due("not grown yet", Settled.node(y, 2, 0), Settled.THROWS);
        y.grow(1);
        Check.due("grown", Settled.node(y, 2, 0), 1);
        Check.due("its leaves", Settled.node(y, 1, 3), 4);
        y.undo();
        Check.due("undone", Settled.node(y, 2, 0), Settled.THROWS);
        Check.due("none again", Settled.node(y, 1, 3), 0);
    }

    private static void nodeRefused() {
        for (int n : Settled.NO_NODES) {
            for (int what = -1; what <= 4; what++) {
                int asked = what;
                Settled.refused("node(" + n + ", " + what + ")", Settled.THROWS, x -> Settled.node(x, n, asked));
            }
        }
        for (int what : new int[] {MIN, -2, -1, 4, 5, 32, 35, MAX}) {
            for (int n = 0; n < 8; n++) {
                int asked = n;
                Settled.refused("node(" + n + ", " + what + ")", Settled.THROWS, x -> Settled.node(x, asked, what));
            }
        }
        Settled.refusedWhenFull("node(20, 0)", Settled.THROWS, x -> Settled.node(x, 20, 0));
        Settled.refusedWhenFull("node(19, 4)", Settled.THROWS, x -> Settled.node(x, 19, 4));
    }

    private static void nodeOfFullTree() {
        VarianceBridge x = Settled.full();
        Check.due("19 nodes right below or deeper", Settled.node(x, 0, 2), 0x7ffe | 1 << 16);
        Check.due("five leaves", Settled.node(x, 0, 3), 0xf8000);
        Check.due("parent of the last", Settled.node(x, 19, 0), 3);
        Check.due("the last of itself", Settled.node(x, 19, 3), 1 << 19);
        Check.due("below 3", Settled.node(x, 3, 2), 1 << 19);
        VarianceBridge y = Check.made("scenes 1;" + "line 0;".repeat(15));
        for (int n = 16; n < 20; n++) {
            y.grow(0);
        }
        Check.due("all of them right below", Settled.node(y, 0, 2), 0xffffe);
        Check.due("all of them leaves", Settled.node(y, 0, 3), 0xffffe);
    }

    // Promise 8.

    private static void factorTaken() {
        VarianceBridge x = Settled.usual();
        int[] first = {10, 51, 30, 100, 100};
        int[] usual = {0, 0, 0, 100, 100};
        for (int k = 0; k < 5; k++) {
            Check.due("leaf 2 in scene 0, " + k, x.factor(2, 0, k), first[k]);
            Check.due("leaf 2 in the last scene, " + k, x.factor(2, 2, k), first[k]);
            Check.due("leaf 2 without 'set', " + k, x.factor(2, 1, k), usual[k]);
            for (int scene = 0; scene < 3; scene++) {
                Check.due("the last leaf in " + scene + ", " + k, x.factor(7, scene, k), usual[k]);
            }
        }
        x.undo();
        Check.due("no longer grown", x.factor(7, 0, 3), -1);
    }

    private static void factorRefused() {
        for (int leaf : Settled.NO_NODES) {
            Settled.refused("factor of " + leaf, -1, x -> x.factor(leaf, 0, 3));
        }
        for (int group : Settled.GROUPS) {
            Settled.refused("factor of group " + group, -1, x -> x.factor(group, 0, 3));
        }
        for (int leaf : Settled.LEAVES) {
            for (int scene : Settled.NO_SCENES) {
                Settled.refused("factor in scene " + scene, -1, x -> x.factor(leaf, scene, 3));
            }
            for (int k : Settled.NO_FACTORS) {
                Settled.refused("factor " + k, -1, x -> x.factor(leaf, 2, k));
            }
        }
        Settled.refusedWhenFull("factor of 20", -1, x -> x.factor(20, 0, 0));
        Settled.refusedWhenFull("factor of 14, a group", -1, x -> x.factor(14, 0, 0));
    }

    // Promise 9.

    private static void valueIsCut() {
        // Price times rate by 100, and cost times 100 by yield: each of them is cut by itself.
        dueValue("1 1 0 99 100", 0);
        dueValue("1 1 0 100 100", 1);
        dueValue("1 1 0 199 100", 1);
        dueValue("1 1 0 200 100", 2);
        dueValue("1 0 1 100 100", -1);
        dueValue("1 0 1 100 99", -1);
        dueValue("1 0 1 100 51", -1);
        dueValue("1 0 1 100 50", -2);
        dueValue("1 0 1 100 11", -9);
        dueValue("1 0 1 100 10", -10);
        dueValue("1 1 1 99 99", -1);
        dueValue("100 1 1 99 99", -100);
        dueValue("3 7 5 33 77", -12);
        dueValue("0 999 0 200 100", 0);
        dueValue("0 0 999 1 10", 0);
        dueValue("999 99 0 1 100", 0);
        dueValue("999 100 0 1 100", 999);
    }

    private static void dueValue(String told, int want) {
        VarianceBridge x = Check.made("scenes 1;group 0;line 1;set 2 0 " + told + ";");
        Check.due("value of " + told, x.value(2, 0), want);
        Check.due("rolled up", x.value(1, 0), want);
        Check.due("rolled up to the top", x.value(0, 0), want);
    }

    /** 19 leaves of one scene, all alike. */
    private static VarianceBridge allLeaves(int price, int cost, int rate, int yielded) {
        VarianceBridge x = Check.made("scenes 2;" + "line 0;".repeat(15));
        for (int n = 1; n < 20; n++) {
            if (n > 15) {
                x.grow(0);
            }
            x.set(n, 1, 0, 999);
            x.set(n, 1, 1, price);
            x.set(n, 1, 2, cost);
            x.set(n, 1, 3, rate);
            x.set(n, 1, 4, yielded);
        }
        return x;
    }

    private static void valueLeastAndMost() {
        VarianceBridge most = allLeaves(999, 0, 200, 10);
        Check.due("the most of a leaf", most.value(19, 1), 999 * 1998);
        Check.due("the most of all", most.value(0, 1), 19 * 999 * 1998);
        Check.due("of scene 0", most.value(0, 0), 0);
        VarianceBridge least = allLeaves(0, 999, 200, 10);
        Check.due("the least of a leaf", least.value(1, 1), -999 * 9990);
        Check.due("the least of all", least.value(0, 1), -19 * 999 * 9990);
        Check.due("the least difference is new", least.effect(0, 0, 1, -1, 5), -19 * 999 * 9990);
        Check.due("and ended the other way", least.effect(0, 1, 0, 119, 6), 19 * 999 * 9990);
        VarianceBridge empty = Check.made("scenes 4;group 0;");
        for (int scene = 0; scene < 4; scene++) {
            Check.due("an empty group", empty.value(1, scene), 0);
            Check.due("an empty top", empty.value(0, scene), 0);
        }
    }

    private static void valueRefused() {
        for (int n : Settled.NO_NODES) {
            Settled.refused("value of " + n, NO_AMOUNT, x -> x.value(n, 0));
        }
        for (int n = 0; n < 8; n++) {
            int node = n;
            for (int scene : Settled.NO_SCENES) {
                Settled.refused("value in scene " + scene, NO_AMOUNT, x -> x.value(node, scene));
            }
        }
        Settled.refusedWhenFull("value of 20", NO_AMOUNT, x -> x.value(20, 0));
        Settled.refusedWhenNew("value of 1", NO_AMOUNT, x -> x.value(1, 0));
        Settled.refusedWhenNew("value in 1", NO_AMOUNT, x -> x.value(0, 1));
    }

    // Promise 10.

    private static void howOfUnits() {
        int[] units = {0, 1, 2, 999};
        for (int inA : units) {
            for (int inB : units) {
                VarianceBridge x = line(inA + " 5 1 100 100", inB + " 5 1 100 100");
                int due = inA == 0 && inB > 0 ? 1 : inA > 0 && inB == 0 ? 2 : 0;
                int back = due == 0 ? 0 : 3 - due;
                Check.due("from " + inA + " to " + inB, x.how(1, 0, 1), due);
                Check.due("back", x.how(1, 1, 0), back);
                Check.due("0 to itself", x.how(1, 0, 0), 0);
                Check.due("1 to itself", x.how(1, 1, 1), 0);
            }
        }
        // UNITS alone tell, whatever the VALUE is.
        Check.due("new without value", line("0 5 5 100 100", "1 5 5 100 100").how(1, 0, 1), 1);
        Check.due("stays without value", line("1 5 5 100 100", "1 0 0 100 100").how(1, 0, 1), 0);
        Check.due("stays without units", line("0 5 5 100 100", "0 999 0 200 100").how(1, 0, 1), 0);
        VarianceBridge grown = Settled.usual();
        Check.due("just grown: it stays", grown.how(7, 0, 2), 0);
        Check.due("the last scene", grown.how(2, 1, 2), 1);
        Check.due("from the last scene", grown.how(2, 2, 1), 2);
    }

    private static void howRefused() {
        for (int leaf : Settled.NO_NODES) {
            Settled.refused("how of " + leaf, -1, x -> x.how(leaf, 0, 1));
        }
        for (int group : Settled.GROUPS) {
            Settled.refused("how of group " + group, -1, x -> x.how(group, 0, 1));
        }
        for (int scene : Settled.NO_SCENES) {
            Settled.refused("how from " + scene, -1, x -> x.how(2, scene, 1));
            Settled.refused("how to " + scene, -1, x -> x.how(2, 0, scene));
            Settled.refused("how from and to " + scene, -1, x -> x.how(2, scene, scene));
        }
    }

    // Promise 11.

    private static void orderFirstAndLast() {
        VarianceBridge x = new VarianceBridge();
        int[] numbers = {0, 1, 2, 5, 6, 23, 24, 47, 48, 71, 72, 95, 96, 118, 119};
        int[] digits = {1234, 1243, 1324, 1432, 2134, 4321, 10234, 14320, 20134, 24310, 30124, 34210, 40123, 43201,
            43210};
        for (int i = 0; i < numbers.length; i++) {
            Check.due("order " + numbers[i], x.order(numbers[i]), digits[i]);
        }
        for (int order : NO_ORDERS) {
            Settled.refused("order " + order, -1, y -> y.order(order));
        }
        Settled.refused("order NONE", -1, y -> y.order(VarianceBridge.NONE));
    }

    // Promise 12.

    private static void effectOfSteps() {
        VarianceBridge x = line("7 11 5 33 77", "4 13 2 150 60");
        // Of each order: its EFFECTS one behind the other, from -21 to 64.
        int[] orders = {0, 119};
        int[][] due = {{9, 4, 16, 60, -4}, {-48, 21, 35, 91, -14}};
        for (int i = 0; i < 2; i++) {
            for (int k = 0; k < 8; k++) {
                int want = k < 5 ? due[i][k] : 0;
                Check.due("effect " + k + " by " + orders[i], x.effect(1, 0, 1, orders[i], k), want);
            }
        }
        // A cut within the steps: price 1 to 2 by a rate of 50 to 150.
        VarianceBridge cut = line("1 1 0 50 100", "1 2 0 150 100");
        Check.due("price first", cut.effect(1, 0, 1, 0, 1), 1);
        Check.due("rate behind it", cut.effect(1, 0, 1, 0, 3), 2);
        Check.due("rate first", cut.effect(1, 0, 1, 119, 3), 1);
        Check.due("price behind it", cut.effect(1, 0, 1, 119, 1), 2);
        // Without UNITS in both it STAYS and no FACTOR has an EFFECT.
        VarianceBridge none = line("0 1 9 50 100", "0 99 1 150 10");
        for (int order = -1; order < 120; order += 40) {
            for (int k = 0; k < 8; k++) {
                Check.due("without units, " + k, none.effect(1, 0, 1, order, k), 0);
            }
        }
        for (int k = 0; k < 8; k++) {
            Check.due("of one scene by an order, " + k, x.effect(1, 1, 1, 7, k), 0);
            Check.due("of one scene by the mean, " + k, x.effect(1, 0, 0, -1, k), 0);
        }
    }

    private static void effectOfNewAndEnded() {
        String[] rows = {"1 999 0 200 100", "999 0 999 1 10", "5 3 3 100 100"};
        int[] values = {1998, -999 * 9990, 0};
        for (int i = 0; i < 3; i++) {
            VarianceBridge x = line("0 7 2 150 50", rows[i]);
            for (int k = 0; k < 8; k++) {
                Check.due("new by an order, " + k, x.effect(1, 0, 1, 119, k), k == 5 ? values[i] : 0);
                Check.due("new by the mean, " + k, x.effect(1, 0, 1, -1, k), k == 5 ? values[i] : 0);
                Check.due("ended by an order, " + k, x.effect(1, 1, 0, 0, k), k == 6 ? -values[i] : 0);
                Check.due("ended by the mean, " + k, x.effect(0, 1, 0, -1, k), k == 6 ? -values[i] : 0);
            }
        }
    }

    /** Units n to n + 1 by a price of p to p + 1: means n + 1/2 and p + 1/2, cut, and a rest of 1. */
    private static void effectOfMeanIsCut() {
        VarianceBridge x = line("4 7 0 100 100", "5 8 0 100 100");
        int[] due = {7, 4, 0, 0, 0, 0, 0, 1};
        for (int k = 0; k < 8; k++) {
            Check.due("mean " + k, x.effect(1, 0, 1, -1, k), due[k]);
            Check.due("mean back " + k, x.effect(1, 1, 0, -1, k), -due[k]);
            Check.due("no rest by an order", x.effect(1, 0, 1, 17, 7), 0);
        }
        // Two such lines: each is cut, then they are added, and so are their rests.
        VarianceBridge two = Check.made("scenes 2;group 0;line 1;line 1;set 2 0 4 7 0 100 100;"
                + "set 2 1 5 8 0 100 100;set 3 0 4 7 0 100 100;set 3 1 5 8 0 100 100;");
        Check.due("units of both", two.effect(1, 0, 1, -1, 0), 14);
        Check.due("rest of both", two.effect(1, 0, 1, -1, 7), 2);
        Check.due("rest of the top", two.effect(0, 0, 1, -1, 7), 2);
        // One up and one down: rests of 1 and -1.
        VarianceBridge against = Check.made("scenes 2;line 0;line 0;set 1 0 4 7 0 100 100;"
                + "set 1 1 5 8 0 100 100;set 2 0 5 8 0 100 100;set 2 1 4 7 0 100 100;");
        Check.due("rest of the first", against.effect(1, 0, 1, -1, 7), 1);
        Check.due("rest of the second", against.effect(2, 0, 1, -1, 7), -1);
        Check.due("rest of both", against.effect(0, 0, 1, -1, 7), 0);
    }

    /** The greatest sums over 120 ORDERS, each way. */
    private static void effectOfGreatest() {
        VarianceBridge x = line("999 999 0 200 100", "999 0 999 200 10");
        Check.due("price down", x.effect(1, 0, 1, -1, 1), -999 * 1998);
        Check.due("cost and yield: the difference", x.value(1, 1) - x.value(1, 0), -999 * (1998 + 9990));
        // Cost first or yield first: 999 and 9990 either way for the cost, 8991 or 0 for the yield.
        Check.due("cost by the mean", x.effect(1, 0, 1, -1, 2), -999 * (999 + 9990) / 2);
        Check.due("yield by the mean", x.effect(1, 0, 1, -1, 4), -999 * 8991 / 2);
        Check.due("cost by order 119", x.effect(1, 0, 1, 119, 2), -999 * 9990);
        Check.due("cost by order 0", x.effect(1, 0, 1, 0, 2), -999 * 999);
        Check.due("back", x.effect(1, 1, 0, -1, 2), 999 * (999 + 9990) / 2);
        VarianceBridge y = line("1 0 999 1 10", "999 0 999 1 10");
        Check.due("units alone, all of 120 alike", y.effect(1, 0, 1, -1, 0), -998 * 9990);
        Check.due("and back", y.effect(1, 1, 0, -1, 0), 998 * 9990);
        VarianceBridge z = line("999 0 0 1 10", "999 0 999 1 10");
        Check.due("cost alone, all of 120 alike", z.effect(1, 0, 1, -1, 2), -999 * 9990);
        Check.due("and back", z.effect(1, 1, 0, -1, 2), 999 * 9990);
    }

    private static void effectRefused() {
        for (int n : Settled.NO_NODES) {
            Settled.refused("effect of " + n, NO_AMOUNT, x -> x.effect(n, 0, 1, 0, 0));
            Settled.refused("mean effect of " + n, NO_AMOUNT, x -> x.effect(n, 0, 1, -1, 0));
        }
        for (int scene : Settled.NO_SCENES) {
            Settled.refused("effect from " + scene, NO_AMOUNT, x -> x.effect(0, scene, 1, 0, 0));
            Settled.refused("effect to " + scene, NO_AMOUNT, x -> x.effect(0, 0, scene, -1, 0));
            Settled.refused("effect from and to " + scene, NO_AMOUNT, x -> x.effect(0, scene, scene, -1, 0));
        }
        for (int order : NO_ORDERS) {
            Settled.refused("effect by order " + order, NO_AMOUNT, x -> x.effect(0, 0, 1, order, 0));
        }
        for (int k : NO_EFFECTS) {
            Settled.refused("effect " + k, NO_AMOUNT, x -> x.effect(2, 0, 1, 0, k));
            Settled.refused("effect " + k + " by order 119", NO_AMOUNT, x -> x.effect(2, 0, 1, 119, k));
            Settled.refused("mean effect " + k, NO_AMOUNT, x -> x.effect(2, 0, 1, -1, k));
        }
        Settled.refusedWhenFull("effect of 20", NO_AMOUNT, x -> x.effect(20, 0, 0, 0, 0));
        VarianceBridge x = Settled.usual();
        Check.due("the last of each that is taken", x.effect(7, 2, 2, 119, 7), 0);
        Check.due("the first of each that is taken", x.effect(0, 0, 0, -1, 0), 0);
        Check.due("ended", x.effect(5, 0, 1, 119, 6), -210);
    }

    // Promise 13.

    private static VarianceBridge twoLines(int firstInA, int firstInB, int secondInA, int secondInB) {
        return Check.made("scenes 2;group 0;line 1;line 1;set 2 0 " + firstInA + " 1 1 100 100;set 2 1 " + firstInB
                + " 1 1 100 100;set 3 0 " + secondInA + " 1 1 100 100;set 3 1 " + secondInB + " 1 1 100 100;");
    }

    private static void mixIsCut() {
        // The share, 7 * 1 / 2, is cut to 3; not what is left of it.
        VarianceBridge x = twoLines(1, 5, 1, 2);
        Check.due("5 less 3", x.mix(2, 0, 1), 2);
        Check.due("2 less 3", x.mix(3, 0, 1), -1);
        // 2 * 5 / 7 and 2 * 2 / 7.
        Check.due("1 less 1", x.mix(2, 1, 0), 0);
        Check.due("1 less 0", x.mix(3, 1, 0), 1);
        VarianceBridge even = twoLines(1, 3, 1, 3);
        Check.due("even", even.mix(2, 0, 1), 0);
        // The one below the parent: always 0.
        Check.due("group 1 is all of the top", x.mix(1, 0, 1), 0);
        VarianceBridge most = Check.made("scenes 2;" + "line 0;".repeat(15));
        for (int n = 1; n < 20; n++) {
            if (n > 15) {
                most.grow(0);
            }
            most.set(n, 0, 0, n == 19 ? 1 : 999);
            most.set(n, 1, 0, n == 19 ? 999 : 1);
        }
        Check.due("the greatest of 19", most.mix(19, 0, 1), 999 - (18 + 999) / (18 * 999 + 1));
        Check.due("the first of 19", most.mix(1, 0, 1), 1 - 1017 * 999 / 17983);
        Check.due("the greatest product", most.mix(1, 1, 0), 999 - 17983 / 1017);
        for (int n = 1; n < 20; n++) {
            most.set(n, 0, 0, 999);
            most.set(n, 1, 0, 999);
        }
        Check.due("19 times 999, each", most.mix(7, 0, 1), 0);
        VarianceBridge product = Check.made("scenes 2;group 0;" + "line 1;".repeat(14));
        for (int n = 2; n < 20; n++) {
            if (n > 15) {
                product.grow(1);
            }
            product.set(n, 0, 0, 999);
            product.set(n, 1, 0, 999);
        }
        Check.due("18 times 999 times 18 times 999", product.mix(1, 0, 1), 0);
    }

    private static void mixOfNothing() {
        Check.due("the parent has none in a: new", twoLines(0, 5, 0, 2).mix(2, 0, 1), 0);
        Check.due("and ended", twoLines(0, 5, 0, 2).mix(2, 1, 0), 0);
        Check.due("none in both", twoLines(0, 0, 0, 0).mix(2, 0, 1), 0);
        Check.due("of a group that has none", twoLines(0, 0, 0, 0).mix(1, 0, 1), 0);
        // NEW and ENDED lines count nowhere.
        VarianceBridge beside = twoLines(0, 500, 3, 9);
        Check.due("new beside one that stays", beside.mix(2, 0, 1), 0);
        Check.due("one that stays beside a new", beside.mix(3, 0, 1), 0);
        Check.due("ended beside one that stays", beside.mix(2, 1, 0), 0);
        Check.due("one that stays beside an ended", beside.mix(3, 1, 0), 0);
        // 0 in both STAYS, with nothing; 1 in both counts.
        Check.due("one unit in a", twoLines(1, 1, 0, 0).mix(2, 0, 1), 0);
        Check.due("nothing beside it", twoLines(1, 1, 0, 0).mix(3, 0, 1), 0);
        VarianceBridge empty = Check.made("scenes 2;group 0;line 0;set 2 0 5 1 1 100 100;set 2 1 6 1 1 100 100;");
        Check.due("an empty group", empty.mix(1, 0, 1), 0);
        Check.due("beside an empty group", empty.mix(2, 0, 1), 0);
        Check.due("one scene", empty.mix(2, 0, 0), 0);
        Check.due("below an empty group", Check.made("scenes 1;group 0;group 1;").mix(2, 0, 0), 0);
        // A PARENT is the one right above: two lines of a group, and a third beside that group.
        VarianceBridge deep = Check.made("scenes 2;group 0;line 1;line 1;line 0;set 2 0 1 1 1 100 100;"
                + "set 2 1 3 1 1 100 100;set 3 0 1 1 1 100 100;set 3 1 1 1 1 100 100;set 4 0 2 1 1 100 100;"
                + "set 4 1 96 1 1 100 100;");
        Check.due("of 4 in group 1", deep.mix(2, 0, 1), 3 - 4 * 1 / 2);
        Check.due("of 100 below the top", deep.mix(1, 0, 1), 4 - 100 * 2 / 4);
        Check.due("the line beside it", deep.mix(4, 0, 1), 96 - 100 * 2 / 4);
    }

    private static void mixRefused() {
        for (int n : Settled.NO_NODES) {
            Settled.refused("mix of " + n, NO_AMOUNT, x -> x.mix(n, 0, 1));
        }
        Settled.refused("mix of the top", NO_AMOUNT, x -> x.mix(0, 0, 1));
        Settled.refusedWhenNew("mix of the top", NO_AMOUNT, x -> x.mix(0, 0, 0));
        for (int scene : Settled.NO_SCENES) {
            for (int n = 0; n < 8; n++) {
                int node = n;
                Settled.refused("mix from " + scene, NO_AMOUNT, x -> x.mix(node, scene, 1));
                Settled.refused("mix to " + scene, NO_AMOUNT, x -> x.mix(node, 0, scene));
            }
        }
        Settled.refusedWhenFull("mix of 20", NO_AMOUNT, x -> x.mix(20, 0, 0));
        Check.due("mix of the last node", Settled.usual().mix(7, 2, 0), 0);
        Check.due("mix of the first but the top", Settled.usual().mix(1, 0, 2), 0);
    }

    // Promise 14.

    private static void flattersFirstOfLike() {
        VarianceBridge none = Check.made("scenes 2;group 0;line 0;");
        for (int k = 0; k < 5; k++) {
            Check.due("all alike, " + k, none.flatters(2, 0, 1, k), 0);
            Check.due("an empty group, " + k, none.flatters(1, 0, 1, k), 0);
            Check.due("one scene, " + k, none.flatters(0, 0, 0, k), 0);
        }
        // All below 0, and alike but for the units: the least loss is the most.
        VarianceBridge loss = line("5 9 0 100 100", "7 4 0 100 100");
        Check.due("price ahead of units loses less", loss.flatters(1, 0, 1, 1), 24);
        Check.due("units ahead of price", loss.flatters(1, 0, 1, 0), 0);
        Check.due("alike", loss.flatters(1, 0, 1, 3), 0);
        VarianceBridge gone = line("0 9 0 100 100", "7 4 0 100 100");
        for (int k = 0; k < 5; k++) {
            Check.due("new: all alike, " + k, gone.flatters(1, 0, 1, k), 0);
            Check.due("ended: all alike, " + k, gone.flatters(1, 1, 0, k), 0);
        }
        // A new line beside one that stays changes nothing.
        VarianceBridge both = Check.made("scenes 2;line 0;line 0;set 1 0 5 9 0 100 100;set 1 1 7 4 0 100 100;"
                + "set 2 1 999 999 0 200 100;");
        Check.due("price of both", both.flatters(0, 0, 1, 1), 24);
    }

    /** Of the ORDERS by which it is the most the first, however late that is. */
    private static void flattersLastOrder() {
        // The cost falls for many units (of a) by a low yield (of b): 1 3 4 2 0.
        VarianceBridge x = line("9 0 50 100 100", "2 0 10 100 10");
        Check.due("cost behind yield, ahead of units", x.flatters(1, 0, 1, 2), 41);
        Check.due("it is the most", x.effect(1, 0, 1, 41, 2), 9 * 400);
        // 1 3 4 0 2.
        VarianceBridge y = line("9 0 50 100 10", "2 0 10 100 100");
        Check.due("yield ahead of units and cost", y.flatters(1, 0, 1, 4), 40);
        Check.due("it is the most", y.effect(1, 0, 1, 40, 4), 9 * 450);
        VarianceBridge z = line("1 1 50 100 10", "9 9 10 200 100");
        Check.due("units last", z.flatters(1, 0, 1, 0), 33);
        // 2 3 1 0 4.
        VarianceBridge w = line("9 1 0 100 100", "2 9 0 200 100");
        Check.due("price behind rate, ahead of units", w.flatters(1, 0, 1, 1), 62);
        // 2 3 0 1 4: the rate falls least by few units and a low price, both of a.
        VarianceBridge v = line("1 100 0 200 100", "9 900 0 50 100");
        Check.due("rate ahead of units and price", v.flatters(1, 0, 1, 3), 60);
        // The yield alone is better in b: 4 0 1 2 3 and no other ORDER ahead of it.
        VarianceBridge u = line("1 90 50 150 10", "9 10 60 100 100");
        Check.due("units behind yield alone", u.flatters(1, 0, 1, 0), 96);
        Check.due("it is the most", u.effect(1, 0, 1, 96, 0), 8 * (135 - 50));
    }

    /** Lines that pull apart: each is asked for itself, and no answer leaves anything for the next. */
    private static void flattersOfOneAmongOthers() {
        VarianceBridge x = Check.made("scenes 2;group 0;line 1;group 0;line 3;set 2 0 1 3 0 100 100;"
                + "set 2 1 2 4 0 100 100;set 4 0 100 400 0 100 100;set 4 1 200 300 0 100 100;");
        int[] nodes = {2, 4, 1, 3, 0, 2, 0, 1};
        int[] units = {24, 0, 24, 0, 0, 24, 0, 24};
        int[] price = {0, 24, 0, 24, 24, 0, 24, 0};
        for (int i = 0; i < nodes.length; i++) {
            Check.due("units of " + nodes[i], x.flatters(nodes[i], 0, 1, 0), units[i]);
            Check.due("price of " + nodes[i], x.flatters(nodes[i], 0, 1, 1), price[i]);
            Check.due("effect between", x.effect(4, 0, 1, 0, 0), 40000);
            Check.due("units once more", x.flatters(nodes[i], 0, 1, 0), units[i]);
        }
    }

    private static void flattersRefused() {
        for (int n : Settled.NO_NODES) {
            Settled.refused("flatters " + n, -1, x -> x.flatters(n, 0, 1, 0));
        }
        for (int scene : Settled.NO_SCENES) {
            Settled.refused("flatters from " + scene, -1, x -> x.flatters(0, scene, 1, 0));
            Settled.refused("flatters to " + scene, -1, x -> x.flatters(0, 0, scene, 0));
        }
        for (int k : new int[] {MIN, -1, 5, 6, 7, 8, MAX}) {
            Settled.refused("flatters effect " + k, -1, x -> x.flatters(2, 0, 1, k));
        }
        Check.due("the last of each that is taken", Settled.usual().flatters(7, 2, 2, 4), 0);
        Check.due("the first of each that is taken", Settled.usual().flatters(0, 0, 0, 0), 0);
    }

    // Promise 15.

    private static void moverOfLike() {
        VarianceBridge x = Check.made("scenes 2;" + "line 0;".repeat(15));
        for (int n = 16; n < 20; n++) {
            x.grow(0);
        }
        for (int k = 0; k < 19; k++) {
            Check.due("all alike: mover " + k, x.mover(0, 1, k), k + 1);
        }
        Check.due("no 20th", x.mover(0, 1, 19), -1);
        Check.due("nor 21st", x.mover(0, 1, 20), -1);
        // Either way: -6, 6, 5, -7.
        VarianceBridge y = Check.made("scenes 2;line 0;line 0;group 0;line 3;line 3;set 1 1 6 0 1 100 100;"
                + "set 2 1 6 1 0 100 100;set 4 0 5 0 1 100 100;set 5 0 7 1 0 100 100;");
        int[] due = {5, 1, 2, 4};
        for (int k = 0; k < 4; k++) {
            Check.due("mover " + k, y.mover(0, 1, k), due[k]);
            Check.due("back: mover " + k, y.mover(1, 0, k), due[k]);
        }
        Check.due("as many as leaves", y.mover(0, 1, 4), -1);
        Check.due("as many as nodes", y.mover(0, 1, 5), -1);
        Check.due("one scene", y.mover(0, 0, 0), 1);
        Check.due("one scene, the last", y.mover(0, 0, 3), 5);
        VarianceBridge z = Check.made("scenes 1;group 0;group 0;");
        Check.due("groups alone", z.mover(0, 0, 0), -1);
        z.grow(2);
        Check.due("the first leaf", z.mover(0, 0, 0), 3);
        z.undo();
        Check.due("none again", z.mover(0, 0, 0), -1);
        // The greatest there is, beside one that is less by 1.
        VarianceBridge most = Check.made("scenes 2;line 0;line 0;set 1 1 998 0 999 1 10;set 2 1 999 0 999 1 10;");
        Check.due("the greatest", most.mover(0, 1, 0), 2);
    }

    private static void moverRefused() {
        for (int scene : Settled.NO_SCENES) {
            Settled.refused("mover from " + scene, -1, x -> x.mover(scene, 1, 0));
            Settled.refused("mover to " + scene, -1, x -> x.mover(0, scene, 0));
        }
        for (int k : new int[] {MIN, -2, -1, 4, 5, 8, 20, MAX}) {
            Settled.refused("mover " + k, -1, x -> x.mover(0, 1, k));
        }
        Settled.refusedWhenNew("mover 0", -1, x -> x.mover(0, 0, 0));
        Check.due("the last of each that is taken", Settled.usual().mover(2, 2, 3), 7);
    }

    // Promise 16.

    private static void branchOfLike() {
        String head = "scenes 2;group 0;group 0;group 0;line 1;line 2;line 3;";
        Check.due("all 0", Check.made(head).branch(0, 1), 1);
        Check.due("one scene", Check.made(head).branch(1, 1), 1);
        String second = "set 5 1 4 1 0 100 100;";
        Check.due("the second", Check.made(head + second).branch(0, 1), 2);
        Check.due("the second, back", Check.made(head + second).branch(1, 0), 2);
        Check.due("alike, one the other way", Check.made(head + second + "set 6 1 4 0 1 100 100;").branch(0, 1), 2);
        Check.due("more, the other way", Check.made(head + second + "set 6 1 5 0 1 100 100;").branch(0, 1), 3);
        Check.due("more, back", Check.made(head + second + "set 6 1 5 0 1 100 100;").branch(1, 0), 3);
        Check.due("alike with the first", Check.made(head + second + "set 4 0 4 0 1 100 100;").branch(0, 1), 1);
        // A group in a group, alike: the lesser number, which need not be the upper one.
        VarianceBridge x = Check.made("scenes 2;group 0;group 0;line 1;set 3 1 4 1 0 100 100;");
        x.move(1, 2);
        Check.due("the lower has the lesser number", x.branch(0, 1), 1);
        // The top has more than each, and is not asked.
        VarianceBridge y = Check.made("scenes 2;group 0;line 0;set 2 1 999 999 0 200 100;");
        Check.due("an empty group is all there is", y.branch(0, 1), 1);
        VarianceBridge last = Check.made("scenes 2;" + "group 0;".repeat(15));
        last.grow(15);
        last.set(16, 1, 0, 1);
        last.set(16, 1, 1, 1);
        Check.due("the last group", last.branch(0, 1), 15);
    }

    private static void branchOfNone() {
        Check.due("a new object", new VarianceBridge().branch(0, 0), -2);
        VarianceBridge x = Check.made("scenes 2;line 0;set 1 1 9 9 0 100 100;");
        Check.due("lines alone", x.branch(0, 1), -2);
        Check.due("and scenes that are none", x.branch(0, 2), -1);
        Check.due("and scenes that are none", x.branch(2, 0), -1);
        Check.due("and scenes that are none", x.branch(-1, -1), -1);
    }

    private static void branchRefused() {
        for (int scene : Settled.NO_SCENES) {
            Settled.refused("branch from " + scene, -1, x -> x.branch(scene, 1));
            Settled.refused("branch to " + scene, -1, x -> x.branch(0, scene));
            Settled.refusedWhenNew("branch of " + scene, -1, x -> x.branch(scene, scene));
        }
        Settled.refusedWhenNew("branch to 1", -1, x -> x.branch(0, 1));
        Settled.refusedWhenNew("branch without groups", -2, x -> x.branch(0, 0));
        Check.due("the last scene", Settled.usual().branch(2, 2), 1);
    }

    // Promise 17.

    private static void wouldLeastAndMost() {
        // Leaf 6 in scene 1: 1 unit, price 2, cost 9, rate 4, yield 50: 0 less 18.
        int[] atLeast = {18, 0, 18, 0, -72};
        int[] atMost = {998 * -18, 39, 18 - 1998, 4, 9};
        for (int k = 0; k < 5; k++) {
            int factor = k;
            int least = Settled.LEAST[k];
            int most = Settled.MOST[k];
            VarianceBridge x = Settled.usual();
            Check.due("would, the least " + k, x.would(6, 1, k, least), atLeast[k]);
            Check.due("would, the most " + k, x.would(6, 1, k, most), atMost[k]);
            Check.due("would, as it is " + k, x.would(6, 1, k, x.factor(6, 1, k)), 0);
            for (int v : new int[] {MIN, -1000, least - 1, most + 1, 10000, MAX}) {
                Settled.refused("would " + k + " be " + v, NO_AMOUNT, y -> y.would(6, 1, factor, v));
            }
        }
        Check.due("of a leaf that has just grown", Settled.usual().would(7, 2, 0, 999), 0);
        // From the least VALUE to the most, by one FACTOR.
        VarianceBridge great = line("999 0 999 1 10", "0 0 999 1 10");
        Check.due("cost gone", great.would(1, 0, 2, 0), 999 * 9990);
        Check.due("units come", great.would(1, 1, 0, 999), -999 * 9990);
        Check.due("it was asked, not done", great.value(0, 0), -999 * 9990);
        Check.due("nothing to undo", great.undo(), -1);
    }

    private static void wouldRefused() {
        for (int leaf : Settled.NO_NODES) {
            Settled.refused("would of " + leaf, NO_AMOUNT, x -> x.would(leaf, 0, 0, 50));
        }
        for (int group : Settled.GROUPS) {
            Settled.refused("would of group " + group, NO_AMOUNT, x -> x.would(group, 0, 0, 50));
        }
        for (int scene : Settled.NO_SCENES) {
            Settled.refused("would in " + scene, NO_AMOUNT, x -> x.would(6, scene, 0, 50));
        }
        for (int k : Settled.NO_FACTORS) {
            Settled.refused("would factor " + k, NO_AMOUNT, x -> x.would(6, 0, k, 50));
        }
    }

    // Promise 18.

    private static void needsLeastAndMost() {
        // Each unit of 1 is worth 3; the other line has 100.
        VarianceBridge x = Check.made("scenes 1;line 0;line 0;set 1 0 5 5 2 100 100;set 2 0 10 10 0 100 100;");
        int[] asked = {-999999999, -1, 0, 99, 100, 101, 103, 104, 106, 107, 115, 100 + 998 * 3, 101 + 998 * 3,
            100 + 999 * 3, 101 + 999 * 3, 100 + 1000 * 3, 999999999};
        int[] units = {0, 0, 0, 0, 0, 1, 1, 2, 2, 3, 5, 998, 999, 999, -2, -2, -2};
        for (int i = 0; i < asked.length; i++) {
            Check.due("needs of " + asked[i], x.needs(1, 0, asked[i]), units[i]);
        }
        Check.due("alone", line("0 1 0 100 100", "0 1 0 100 100").needs(1, 1, 999), 999);
        Check.due("alone", line("0 1 0 100 100", "0 1 0 100 100").needs(1, 1, 1000), -2);
        Check.due("the most of a leaf", line("0 999 0 200 100", "0 0 0 1 10").needs(1, 0, 999 * 1998), 999);
        Check.due("and one more", line("0 999 0 200 100", "0 0 0 1 10").needs(1, 0, 999 * 1998 + 1), -2);
        // All others as low as can be: what is missing is far above what a leaf can bring.
        VarianceBridge low = allLeaves(0, 999, 200, 10);
        Check.due("as it is without it", low.needs(1, 1, -18 * 999 * 9990), 0);
        Check.due("one more", low.needs(1, 1, -18 * 999 * 9990 + 1), -2);
        Check.due("the greatest v", low.needs(1, 1, 999999999), -2);
        Check.due("the least v", low.needs(1, 1, -999999999), 0);
        low.set(1, 1, 2, 0);
        low.set(1, 1, 1, 999);
        Check.due("one unit", low.needs(1, 1, -18 * 999 * 9990 + 1), 1);
        Check.due("all of them", low.needs(1, 1, -18 * 999 * 9990 + 999 * 1998), 999);
        Check.due("more than all", low.needs(1, 1, -18 * 999 * 9990 + 999 * 1998 + 1), -2);
        Check.due("the greatest v", low.needs(1, 1, 999999999), -2);
    }

    private static void needsOfLoss() {
        // Each unit loses 1, beside 50.
        VarianceBridge x = Check.made("scenes 1;line 0;line 0;set 1 0 20 0 1 100 100;set 2 0 50 1 0 100 100;");
        Check.due("without it", x.needs(1, 0, 50), 0);
        Check.due("more than without it", x.needs(1, 0, 51), -2);
        Check.due("as it is", x.needs(1, 0, 30), 0);
        x.set(1, 0, 2, 0);
        Check.due("worth nothing, enough", x.needs(1, 0, 50), 0);
        Check.due("worth nothing, not enough", x.needs(1, 0, 51), -2);
        VarianceBridge empty = Check.made("scenes 1;line 0;");
        Check.due("nothing is 0", empty.needs(1, 0, 0), 0);
        Check.due("nothing is not 1", empty.needs(1, 0, 1), -2);
        Check.due("nothing is more than -1", empty.needs(1, 0, -1), 0);
    }

    private static void needsRefused() {
        for (int leaf : Settled.NO_NODES) {
            Settled.refused("needs of " + leaf, -1, x -> x.needs(leaf, 0, 0));
        }
        for (int group : Settled.GROUPS) {
            Settled.refused("needs of group " + group, -1, x -> x.needs(group, 0, 0));
        }
        for (int scene : Settled.NO_SCENES) {
            Settled.refused("needs in " + scene, -1, x -> x.needs(2, scene, 0));
        }
        for (int v : new int[] {MIN, -1000000001, -1000000000, 1000000000, 1000000001, MAX}) {
            Settled.refused("needs for " + v, -1, x -> x.needs(2, 0, v));
        }
        Settled.refused("needs that none meet", -2, x -> x.needs(7, 0, 999999999));
    }

    /** What is only asked leaves all as it was, too. */
    private static void askingChangesNothing() {
        Settled.refused("effect", -210, x -> x.effect(0, 0, 1, -1, 6));
        Settled.refused("rest", 0, x -> x.effect(0, 0, 2, -1, 7));
        Settled.refused("mix", 0, x -> x.mix(2, 0, 2));
        Settled.refused("flatters", 0, x -> x.flatters(0, 0, 1, 2));
        Settled.refused("mover", 4, x -> x.mover(0, 1, 0));
        Settled.refused("branch", 1, x -> x.branch(0, 1));
        Settled.refused("would", 21 * 989, x -> x.would(2, 0, 0, 999));
        Settled.refused("needs", 11, x -> x.needs(2, 0, 225));
        Settled.refused("value", 204, x -> x.value(0, 2));
        Settled.refused("how", 2, x -> x.how(2, 0, 1));
        Settled.refused("order", 43210, x -> x.order(119));
        Settled.refused("fault", 2, VarianceBridge::fault);
        Settled.refused("end of as many as there are", 1, x -> x.end(7) ? 1 : 0);
    }
}
