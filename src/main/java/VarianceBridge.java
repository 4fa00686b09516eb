import java.util.Arrays;
import java.util.NoSuchElementException;

/**
 * A tree of products with five FACTORS in each SCENE, and the difference of margins between two
 * SCENES parted into EFFECTS. The document ../shared/DOC.md says what each call answers; the words
 * in capitals are its terms.
 */
public final class VarianceBridge {
    public static final int NONE = -1;

    /** Answers where an amount is due and NONE itself could be one. */
    private static final int NO_AMOUNT = NONE - 999999999;
    private static final int NOTHING_FITS = -2;
    private static final int MOST_AMOUNT = 999999999;

    private static final int TOP = 0;
    private static final int MOST_SCENES = 4;
    private static final int MOST_NODES = 20;
    private static final int MOST_NODES_OF_A_TEXT = 16;
    private static final int MOST_TAPE = 640;
    private static final int MOST_TEXT = 600;
    private static final int BYTES_OF_A_FEED = 20;
    private static final int MOST_KEPT = 10;

    private static final int FACTORS = 5;
    private static final int UNITS = 0;
    private static final int PRICE = 1;
    private static final int COST = 2;
    private static final int RATE = 3;
    private static final int YIELD = 4;
    private static final int[] LEAST = {0, 0, 0, 1, 10};
    private static final int[] MOST = {999, 999, 999, 200, 100};
    private static final int[] USUAL = {0, 0, 0, 100, 100};

    private static final int STAYS = 0;
    private static final int NEW = 1;
    private static final int ENDED = 2;
    private static final int EFFECT_NEW = 5;
    private static final int EFFECT_ENDED = 6;
    private static final int EFFECT_REST = 7;

    private static final int ORDERS = 120;
    /** In how many ways the places behind each place of an ORDER can be filled. */
    private static final int[] WAYS_BEHIND = {24, 6, 2, 1, 1};
    /** By how many ORDERS just these FACTORS, so many, stand ahead of a given one. */
    private static final int[] ORDERS_WITH_AHEAD = {24, 6, 4, 6, 24};

    private final Tape tape;
    private final Plan plan;
    private final Plan draft;
    private final Reader reader;
    private final Bridge bridge;
    private final History history;

    public VarianceBridge() {
        tape = new Tape();
        plan = new Plan();
        draft = new Plan();
        reader = new Reader(tape, draft);
        bridge = new Bridge(plan);
        history = new History(plan);
    }

    public int feed(int a, int b, int c, int d, int e) {
        if (tape.length + BYTES_OF_A_FEED > MOST_TAPE) {
            return NONE;
        }
        tape.addNumber(a);
        tape.addNumber(b);
        tape.addNumber(c);
        tape.addNumber(d);
        tape.addNumber(e);
        return tape.length;
    }

    public boolean end(int n) {
        if (n < 0 || n > tape.length) {
            return false;
        }
        tape.length = n;
        return true;
    }

    public int text() {
        boolean sound = reader.readText();
        tape.length = 0;
        if (!sound) {
            return -1 - reader.faultPlace;
        }
        plan.takeFrom(draft);
        history.forget();
        return reader.lines;
    }

    public int fault() {
        return reader.faultKind;
    }

    public int now(int what) {
        switch (what) {
            case 0:
                return plan.scenes;
            case 1:
                return plan.nodes;
            case 2:
                return Integer.bitCount(plan.leavesBelow(TOP));
            case 3:
                return history.kept;
            case 4:
                return tape.length;
            default:
                return NONE;
        }
    }

    public int node(int node, int what) throws NoSuchElementException {
        if (!plan.isNode(node) || what < 0 || what > 3) {
            throw new NoSuchElementException("no such node, or nothing that is told of one");
        }
        switch (what) {
            case 0:
                return plan.parents[node];
            case 1:
                return plan.isGroup(node) ? 1 : 0;
            case 2:
                return plan.nodesRightBelow(node);
            default:
                return plan.leavesBelow(node);
        }
    }

    public int factor(int leaf, int scene, int factor) {
        if (!plan.isLeaf(leaf) || !plan.isScene(scene) || !isFactor(factor)) {
            return NONE;
        }
        return plan.factorOf(leaf, scene, factor);
    }

    public int value(int node, int scene) {
        if (!plan.isNode(node) || !plan.isScene(scene)) {
            return NO_AMOUNT;
        }
        return plan.nodeValue(node, scene);
    }

    public int how(int leaf, int a, int b) {
        if (!plan.isLeaf(leaf) || !plan.isScene(a) || !plan.isScene(b)) {
            return NONE;
        }
        return bridge.fateOf(leaf, a, b);
    }

    public int order(int order) {
        if (!isOrder(order)) {
            return NONE;
        }
        return digitsOfOrder(order);
    }

    public int effect(int node, int a, int b, int order, int k) {
        if (!plan.isNode(node) || !plan.isScene(a) || !plan.isScene(b)) {
            return NO_AMOUNT;
        }
        if (order != NONE && !isOrder(order) || k < 0 || k > EFFECT_REST) {
            return NO_AMOUNT;
        }
        return bridge.nodeEffect(node, a, b, order, k);
    }

    public int mix(int node, int a, int b) {
        if (!plan.isNode(node) || node == TOP || !plan.isScene(a) || !plan.isScene(b)) {
            return NO_AMOUNT;
        }
        return bridge.mixOf(node, a, b);
    }

    public int flatters(int node, int a, int b, int k) {
        if (!plan.isNode(node) || !plan.isScene(a) || !plan.isScene(b) || !isFactor(k)) {
            return NONE;
        }
        return bridge.mostFlattering(node, a, b, k);
    }

    public int mover(int a, int b, int k) {
        if (!plan.isScene(a) || !plan.isScene(b)) {
            return NONE;
        }
        return bridge.moverAt(a, b, k);
    }

    public int branch(int a, int b) {
        if (!plan.isScene(a) || !plan.isScene(b)) {
            return NONE;
        }
        return bridge.greatestGroup(a, b);
    }

    public int would(int leaf, int scene, int factor, int v) {
        if (!plan.isLeaf(leaf) || !plan.isScene(scene) || !isFactorValue(factor, v)) {
            return NO_AMOUNT;
        }
        return plan.gainIfSet(leaf, scene, factor, v);
    }

    public int needs(int leaf, int scene, int v) {
        if (!plan.isLeaf(leaf) || !plan.isScene(scene) || v < -MOST_AMOUNT || v > MOST_AMOUNT) {
            return NONE;
        }
        return plan.unitsNeeded(leaf, scene, v);
    }

    public int set(int leaf, int scene, int factor, int v) {
        if (!plan.isLeaf(leaf) || !plan.isScene(scene) || !isFactorValue(factor, v)) {
            return NONE;
        }
        int before = plan.factorOf(leaf, scene, factor);
        history.keepScene(scene);
        plan.putFactor(leaf, scene, factor, v);
        return before;
    }

    public int copy(int a, int b) {
        if (!plan.isScene(a) || !plan.isScene(b) || a == b) {
            return NONE;
        }
        history.keepScene(b);
        return plan.copyScene(a, b);
    }

    public boolean move(int node, int group) {
        if (!plan.isNode(node) || node == TOP || !plan.isGroup(group)) {
            return false;
        }
        if (plan.parents[node] == group || plan.isWithin(group, node)) {
            return false;
        }
        history.keepParent(node);
        plan.parents[node] = group;
        return true;
    }

    public int grow(int group) {
        if (!plan.isGroup(group)) {
            return NONE;
        }
        if (plan.nodes >= MOST_NODES) {
            return NOTHING_FITS;
        }
        history.keepGrowth();
        return plan.addLeaf(group);
    }

    public int undo() {
        if (history.kept == 0) {
            return NONE;
        }
        history.takeBack();
        return history.kept;
    }

    private static boolean isFactor(int factor) {
        return factor >= 0 && factor < FACTORS;
    }

    private static boolean isFactorValue(int factor, int v) {
        return isFactor(factor) && v >= LEAST[factor] && v <= MOST[factor];
    }

    private static boolean isOrder(int order) {
        return order >= 0 && order < ORDERS;
    }

    /** A YIELD is 10 or more: its test only keeps the division from ever failing. */
    private static int marginOf(int price, int cost, int rate, int yielded) {
        if (yielded == 0) {
            return 0;
        }
        return price * rate / 100 - cost * 100 / yielded;
    }

    private static int digitsOfOrder(int order) {
        int digits = 0;
        int ahead = 0;
        for (int place = 0; place < FACTORS; place++) {
            int next = factorAt(order, place, ahead);
            digits = digits * 10 + next;
            ahead |= 1 << next;
        }
        return digits;
    }

    /** The FACTORS (bits) that an ORDER has ahead of one of them. */
    private static int aheadInOrder(int order, int factor) {
        int ahead = 0;
        for (int place = 0; place < FACTORS; place++) {
            int next = factorAt(order, place, ahead);
            if (next == factor) {
                break;
            }
            ahead |= 1 << next;
        }
        return ahead;
    }

    /** The FACTOR at a place of an ORDER, whose FACTORS ahead of that place (bits) are known. */
    private static int factorAt(int order, int place, int ahead) {
        int skip = order / WAYS_BEHIND[place] % (FACTORS - place);
        int found = 0;
        for (int factor = 0; factor < FACTORS; factor++) {
            if ((ahead >> factor & 1) == 0) {
                if (skip == 0) {
                    found = factor;
                    break;
                }
                skip--;
            }
        }
        return found;
    }

    /** Bytes that came, of which the first ones, as many as its length tells, count. */
    private static final class Tape {
        private final byte[] bytes = new byte[MOST_TAPE];
        private int length = 0;

        private void addNumber(int number) {
            for (int shift = 24; shift >= 0 && length < MOST_TAPE; shift -= 8) {
                bytes[length] = (byte) (number >> shift);
                length++;
            }
        }
    }

    /** Cuts the tape into TOKENS. */
    private static final class Tokens {
        private static final int NO_TOKEN = 0;
        private static final int WORD = 1;
        private static final int NUMBER = 2;
        private static final int SEMICOLON = 3;
        private static final int FINISH = 4;
        private static final int MOST_DIGITS = 4;

        private final Tape tape;
        private int place = 0;
        private int begin = 0;
        private int kind = NO_TOKEN;
        private int number = 0;

        private Tokens(Tape tape) {
            this.tape = tape;
        }

        private void rewind() {
            place = 0;
            begin = 0;
            kind = NO_TOKEN;
            number = 0;
        }

        private void advance() {
            skipBlanks();
            begin = place;
            if (place >= MOST_TEXT && tape.length > MOST_TEXT) {
                begin = MOST_TEXT;
                kind = NO_TOKEN;
            } else if (place >= tape.length) {
                kind = FINISH;
            } else if (tape.bytes[place] == ';') {
                kind = SEMICOLON;
                place++;
            } else {
                readRun();
            }
        }

        private void skipBlanks() {
            while (place < tape.length && (tape.bytes[place] == ' ' || tape.bytes[place] == '\n')) {
                place++;
            }
        }

        private void readRun() {
            int letters = 0;
            int digits = 0;
            number = 0;
            while (place < tape.length) {
                int sign = tape.bytes[place];
                if (sign >= '0' && sign <= '9') {
                    digits++;
                    // A longer row of digits is no NUMBER, and adding on could pass what an int holds.
                    number = digits <= MOST_DIGITS ? number * 10 + sign - '0' : 0;
                } else if (sign >= 'a' && sign <= 'z') {
                    letters++;
                } else {
                    break;
                }
                place++;
            }
            if (letters > 0 && digits == 0) {
                kind = WORD;
            } else {
                kind = letters == 0 && digits > 0 && digits <= MOST_DIGITS ? NUMBER : NO_TOKEN;
            }
        }

        private boolean isWord(String word) {
            if (kind != WORD || place - begin != word.length()) {
                return false;
            }
            for (int i = 0; i < word.length(); i++) {
                if (tape.bytes[begin + i] != word.charAt(i)) {
                    return false;
                }
            }
            return true;
        }
    }

    /** Reads a TEXT into a draft, so that a FAULT leaves the plan itself alone. */
    private static final class Reader {
        private static final int CANNOT_COME = 1;
        private static final int NOT_AS_TOLD = 2;
        private static final int TOO_MANY_NODES = 3;

        private final Tokens tokens;
        private final Plan draft;
        /** Of each LEAF the SCENES (bits) that have had their 'set'. */
        private final int[] scenesTold = new int[MOST_NODES];
        private int lines = 0;
        private int faultKind = 0;
        private int faultPlace = 0;

        private Reader(Tape tape, Plan draft) {
            this.tokens = new Tokens(tape);
            this.draft = draft;
        }

        private boolean readText() {
            tokens.rewind();
            Arrays.fill(scenesTold, 0);
            lines = 0;
            faultKind = 0;
            faultPlace = 0;
            tokens.advance();
            if (!readScenes()) {
                return false;
            }
            // Every LINE takes bytes of the tape, so that there are fewer of them.
            for (lines = 1; lines <= MOST_TAPE; lines++) {
                tokens.advance();
                if (tokens.kind == Tokens.FINISH) {
                    return true;
                }
                if (!readLine()) {
                    return false;
                }
            }
            return refuse(CANNOT_COME);
        }

        private boolean readScenes() {
            if (!tokens.isWord("scenes")) {
                return refuse(CANNOT_COME);
            }
            if (!readNumber(1, MOST_SCENES)) {
                return false;
            }
            draft.clear(tokens.number);
            return readSemicolon();
        }

        private boolean readLine() {
            if (tokens.isWord("group")) {
                return readNode(true);
            }
            if (tokens.isWord("line")) {
                return readNode(false);
            }
            if (tokens.isWord("set")) {
                return readSet();
            }
            return refuse(CANNOT_COME);
        }

        private boolean readNode(boolean asGroup) {
            if (draft.nodes >= MOST_NODES_OF_A_TEXT) {
                return refuse(TOO_MANY_NODES);
            }
            if (!readNumber(0, MOST_NODES)) {
                return false;
            }
            if (!draft.isGroup(tokens.number)) {
                return refuse(NOT_AS_TOLD);
            }
            if (asGroup) {
                draft.addGroup(tokens.number);
            } else {
                draft.addLeaf(tokens.number);
            }
            return readSemicolon();
        }

        private boolean readSet() {
            if (!readNumber(0, MOST_NODES)) {
                return false;
            }
            int leaf = tokens.number;
            if (!draft.isLeaf(leaf)) {
                return refuse(NOT_AS_TOLD);
            }
            if (!readNumber(0, draft.scenes - 1)) {
                return false;
            }
            int scene = tokens.number;
            if ((scenesTold[leaf] >> scene & 1) != 0) {
                return refuse(NOT_AS_TOLD);
            }
            scenesTold[leaf] |= 1 << scene;
            for (int factor = 0; factor < FACTORS; factor++) {
                if (!readNumber(LEAST[factor], MOST[factor])) {
                    return false;
                }
                draft.putFactor(leaf, scene, factor, tokens.number);
            }
            return readSemicolon();
        }

        private boolean readNumber(int least, int most) {
            tokens.advance();
            if (tokens.kind != Tokens.NUMBER) {
                return refuse(CANNOT_COME);
            }
            if (tokens.number < least || tokens.number > most) {
                return refuse(NOT_AS_TOLD);
            }
            return true;
        }

        private boolean readSemicolon() {
            tokens.advance();
            return tokens.kind == Tokens.SEMICOLON || refuse(CANNOT_COME);
        }

        private boolean refuse(int kind) {
            faultKind = kind;
            faultPlace = tokens.begin;
            return false;
        }
    }

    /** The tree and the FACTORS of its LEAVES. */
    private static final class Plan {
        /** FACTORS of one SCENE stand together, so that a SCENE can be copied as a whole. */
        private static final int SCENE_ROW = MOST_NODES * FACTORS;

        private final int[] parents = new int[MOST_NODES];
        private final int[] factors = new int[MOST_SCENES * SCENE_ROW];
        private int groupBits;
        private int scenes;
        private int nodes;

        private Plan() {
            clear(1);
        }

        private void clear(int sceneCount) {
            scenes = sceneCount;
            nodes = 1;
            groupBits = 1 << TOP;
            parents[TOP] = NONE;
        }

        private void takeFrom(Plan other) {
            System.arraycopy(other.parents, 0, parents, 0, MOST_NODES);
            System.arraycopy(other.factors, 0, factors, 0, MOST_SCENES * SCENE_ROW);
            groupBits = other.groupBits;
            scenes = other.scenes;
            nodes = other.nodes;
        }

        private boolean isScene(int scene) {
            return scene >= 0 && scene < scenes;
        }

        private boolean isNode(int node) {
            return node >= 0 && node < nodes;
        }

        private boolean isGroup(int node) {
            return isNode(node) && (groupBits >> node & 1) != 0;
        }

        private boolean isLeaf(int node) {
            return isNode(node) && (groupBits >> node & 1) == 0;
        }

        private void addGroup(int parent) {
            if (nodes < MOST_NODES) {
                parents[nodes] = parent;
                groupBits |= 1 << nodes;
                nodes++;
            }
        }

        private int addLeaf(int parent) {
            if (nodes >= MOST_NODES) {
                return NONE;
            }
            int leaf = nodes;
            nodes++;
            parents[leaf] = parent;
            for (int scene = 0; scene < MOST_SCENES; scene++) {
                for (int factor = 0; factor < FACTORS; factor++) {
                    putFactor(leaf, scene, factor, USUAL[factor]);
                }
            }
            return leaf;
        }

        /** Only a LEAF is ever taken back, and its bit is none of the groups'. */
        private void dropLastLeaf() {
            if (nodes > 1) {
                nodes--;
            }
        }

        /** Whether a NODE is another one or stands somewhere below it. */
        private boolean isWithin(int node, int above) {
            int up = node;
            for (int steps = 0; steps < MOST_NODES && isNode(up); steps++) {
                if (up == above) {
                    return true;
                }
                up = parents[up];
            }
            return false;
        }

        private int nodesRightBelow(int node) {
            int bits = 0;
            for (int other = 1; other < nodes; other++) {
                if (parents[other] == node) {
                    bits |= 1 << other;
                }
            }
            return bits;
        }

        private int leavesBelow(int node) {
            int bits = 0;
            for (int leaf = 1; leaf < nodes; leaf++) {
                if (isLeaf(leaf) && isWithin(leaf, node)) {
                    bits |= 1 << leaf;
                }
            }
            return bits;
        }

        private int factorOf(int leaf, int scene, int factor) {
            return factors[scene * SCENE_ROW + leaf * FACTORS + factor];
        }

        private void putFactor(int leaf, int scene, int factor, int v) {
            factors[scene * SCENE_ROW + leaf * FACTORS + factor] = v;
        }

        private int leafValue(int leaf, int scene) {
            return blendedValue(leaf, scene, scene, 0);
        }

        /** VALUE of a LEAF whose FACTORS are those of SCENE b, where their bit is set, else of a. */
        private int blendedValue(int leaf, int a, int b, int ofB) {
            int price = factorOf(leaf, (ofB >> PRICE & 1) != 0 ? b : a, PRICE);
            int cost = factorOf(leaf, (ofB >> COST & 1) != 0 ? b : a, COST);
            int rate = factorOf(leaf, (ofB >> RATE & 1) != 0 ? b : a, RATE);
            int yielded = factorOf(leaf, (ofB >> YIELD & 1) != 0 ? b : a, YIELD);
            int units = factorOf(leaf, (ofB >> UNITS & 1) != 0 ? b : a, UNITS);
            return units * marginOf(price, cost, rate, yielded);
        }

        private int nodeValue(int node, int scene) {
            int below = leavesBelow(node);
            int sum = 0;
            for (int leaf = 1; leaf < nodes; leaf++) {
                if ((below >> leaf & 1) != 0) {
                    sum += leafValue(leaf, scene);
                }
            }
            return sum;
        }

        private int marginOfLeaf(int leaf, int scene) {
            return marginOf(
                    factorOf(leaf, scene, PRICE),
                    factorOf(leaf, scene, COST),
                    factorOf(leaf, scene, RATE),
                    factorOf(leaf, scene, YIELD));
        }

        private int gainIfSet(int leaf, int scene, int factor, int v) {
            int before = factorOf(leaf, scene, factor);
            int valueBefore = leafValue(leaf, scene);
            putFactor(leaf, scene, factor, v);
            int gain = leafValue(leaf, scene) - valueBefore;
            putFactor(leaf, scene, factor, before);
            return gain;
        }

        /** VALUE rises or falls evenly with UNITS, so that the least ones can be reckoned. */
        private int unitsNeeded(int leaf, int scene, int v) {
            int missing = v - (nodeValue(TOP, scene) - leafValue(leaf, scene));
            int margin = marginOfLeaf(leaf, scene);
            if (missing <= 0) {
                return 0;
            }
            if (margin <= 0) {
                return NOTHING_FITS;
            }
            int units = (missing - 1) / margin + 1;
            return units <= MOST[UNITS] ? units : NOTHING_FITS;
        }

        private int copyScene(int a, int b) {
            int others = 0;
            for (int leaf = 1; leaf < nodes; leaf++) {
                for (int factor = 0; isLeaf(leaf) && factor < FACTORS; factor++) {
                    int v = factorOf(leaf, a, factor);
                    if (factorOf(leaf, b, factor) != v) {
                        others++;
                        putFactor(leaf, b, factor, v);
                    }
                }
            }
            return others;
        }
    }

    /** Parts the DIFFERENCE between two SCENES of a plan into EFFECTS. */
    private static final class Bridge {
        private static final int BLENDS = 1 << FACTORS;

        private final Plan plan;
        /** VALUE of some LEAVES by the FACTORS (bits) that are those of SCENE b already. */
        private final int[] blends = new int[BLENDS];
        /** Of each LEAF how great its DIFFERENCE is, either way. */
        private final int[] sizes = new int[MOST_NODES];

        private Bridge(Plan plan) {
            this.plan = plan;
        }

        private int fateOf(int leaf, int a, int b) {
            boolean soldInA = plan.factorOf(leaf, a, UNITS) > 0;
            boolean soldInB = plan.factorOf(leaf, b, UNITS) > 0;
            if (soldInA == soldInB) {
                return STAYS;
            }
            return soldInB ? NEW : ENDED;
        }

        private int nodeEffect(int node, int a, int b, int order, int k) {
            int below = plan.leavesBelow(node);
            int sum = 0;
            for (int leaf = 1; leaf < plan.nodes; leaf++) {
                if ((below >> leaf & 1) != 0) {
                    sum += leafEffect(leaf, a, b, order, k);
                }
            }
            return sum;
        }

        private int leafEffect(int leaf, int a, int b, int order, int k) {
            Arrays.fill(blends, 0);
            addBlends(leaf, a, b);
            int fate = fateOf(leaf, a, b);
            if (fate != STAYS) {
                int whole = fate == NEW ? EFFECT_NEW : EFFECT_ENDED;
                return k == whole ? blendedDifference() : 0;
            }
            if (k < FACTORS) {
                return order == NONE ? meanEffect(k) : stepEffect(aheadInOrder(order, k), k);
            }
            return order == NONE && k == EFFECT_REST ? restOfMeans() : 0;
        }

        private void addBlends(int leaf, int a, int b) {
            for (int ofB = 0; ofB < BLENDS; ofB++) {
                blends[ofB] += plan.blendedValue(leaf, a, b, ofB);
            }
        }

        private int blendedDifference() {
            return blends[BLENDS - 1] - blends[0];
        }

        /** How much VALUE is more by one FACTOR, when those ahead of it (bits) are of b already. */
        private int stepEffect(int ahead, int k) {
            return blends[ahead | 1 << k] - blends[ahead];
        }

        /**
         * An EFFECT depends on which FACTORS are ahead, not on their row: so 16 of them, each times
         * its ORDERS, make the sum over 120. It stays below 120 times 12 million: an int holds it.
         */
        private int meanEffect(int k) {
            int sum = 0;
            for (int ahead = 0; ahead < BLENDS; ahead++) {
                if ((ahead >> k & 1) == 0) {
                    sum += ORDERS_WITH_AHEAD[Integer.bitCount(ahead)] * stepEffect(ahead, k);
                }
            }
            return sum / ORDERS;
        }

        private int restOfMeans() {
            int rest = blendedDifference();
            for (int k = 0; k < FACTORS; k++) {
                rest -= meanEffect(k);
            }
            return rest;
        }

        private int mixOf(int node, int a, int b) {
            int parent = plan.parents[node];
            int parentInA = stayingUnits(parent, a, b, a);
            if (parentInA == 0) {
                return 0;
            }
            int parentInB = stayingUnits(parent, a, b, b);
            int share = parentInB * stayingUnits(node, a, b, a) / parentInA;
            return stayingUnits(node, a, b, b) - share;
        }

        /** UNITS in a SCENE of the LEAVES below a NODE that STAY from a to b. */
        private int stayingUnits(int node, int a, int b, int scene) {
            int below = plan.leavesBelow(node);
            int sum = 0;
            for (int leaf = 1; leaf < plan.nodes; leaf++) {
                if ((below >> leaf & 1) != 0 && fateOf(leaf, a, b) == STAYS) {
                    sum += plan.factorOf(leaf, scene, UNITS);
                }
            }
            return sum;
        }

        private int mostFlattering(int node, int a, int b, int k) {
            int below = plan.leavesBelow(node);
            Arrays.fill(blends, 0);
            for (int leaf = 1; leaf < plan.nodes; leaf++) {
                if ((below >> leaf & 1) != 0 && fateOf(leaf, a, b) == STAYS) {
                    addBlends(leaf, a, b);
                }
            }
            return bestOrder(k);
        }

        private int bestOrder(int k) {
            int best = 0;
            int most = stepEffect(aheadInOrder(0, k), k);
            for (int order = 1; order < ORDERS; order++) {
                int gain = stepEffect(aheadInOrder(order, k), k);
                if (gain > most) {
                    most = gain;
                    best = order;
                }
            }
            return best;
        }

        private int moverAt(int a, int b, int k) {
            for (int leaf = 1; leaf < plan.nodes; leaf++) {
                if (plan.isLeaf(leaf)) {
                    sizes[leaf] = Math.abs(plan.leafValue(leaf, b) - plan.leafValue(leaf, a));
                }
            }
            for (int leaf = 1; leaf < plan.nodes; leaf++) {
                if (plan.isLeaf(leaf) && moversAheadOf(leaf) == k) {
                    return leaf;
                }
            }
            return NONE;
        }

        private int moversAheadOf(int leaf) {
            int ahead = 0;
            for (int other = 1; other < plan.nodes; other++) {
                boolean greater = sizes[other] > sizes[leaf];
                boolean alikeAndFirst = sizes[other] == sizes[leaf] && other < leaf;
                if (plan.isLeaf(other) && (greater || alikeAndFirst)) {
                    ahead++;
                }
            }
            return ahead;
        }

        private int greatestGroup(int a, int b) {
            int best = NOTHING_FITS;
            int most = NONE;
            for (int group = 1; group < plan.nodes; group++) {
                if (plan.isGroup(group)) {
                    int size = Math.abs(plan.nodeValue(group, b) - plan.nodeValue(group, a));
                    if (size > most) {
                        most = size;
                        best = group;
                    }
                }
            }
            return best;
        }
    }

    /** What the latest acts have changed, in a ring: the oldest gives way when it is full. */
    private static final class History {
        private static final int ACT_ON_SCENE = 0;
        private static final int ACT_ON_PARENT = 1;
        private static final int ACT_OF_GROWTH = 2;

        private final Plan plan;
        private final int[] kinds = new int[MOST_KEPT];
        /** The SCENE or the NODE that an act has changed. */
        private final int[] places = new int[MOST_KEPT];
        private final int[] parentsBefore = new int[MOST_KEPT];
        private final int[] rowsBefore = new int[MOST_KEPT * Plan.SCENE_ROW];
        private int latest = 0;
        private int kept = 0;

        private History(Plan plan) {
            this.plan = plan;
        }

        private void forget() {
            kept = 0;
        }

        private void keepScene(int scene) {
            keepAct(ACT_ON_SCENE, scene);
            System.arraycopy(plan.factors, scene * Plan.SCENE_ROW,
                    rowsBefore, latest * Plan.SCENE_ROW, Plan.SCENE_ROW);
        }

        private void keepParent(int node) {
            keepAct(ACT_ON_PARENT, node);
            parentsBefore[latest] = plan.parents[node];
        }

        private void keepGrowth() {
            keepAct(ACT_OF_GROWTH, NONE);
        }

        private void keepAct(int kind, int place) {
            latest = (latest + 1) % MOST_KEPT;
            kept = Math.min(kept + 1, MOST_KEPT);
            kinds[latest] = kind;
            places[latest] = place;
        }

        private void takeBack() {
            int place = places[latest];
            if (kinds[latest] == ACT_ON_SCENE) {
                System.arraycopy(rowsBefore, latest * Plan.SCENE_ROW,
                        plan.factors, place * Plan.SCENE_ROW, Plan.SCENE_ROW);
            } else if (kinds[latest] == ACT_ON_PARENT) {
                plan.parents[place] = parentsBefore[latest];
            } else {
                plan.dropLastLeaf();
            }
            latest = (latest + MOST_KEPT - 1) % MOST_KEPT;
            kept--;
        }
    }
}
