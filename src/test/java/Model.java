import java.math.BigInteger;
import java.util.ArrayList;
import java.util.Arrays;
import java.util.HashMap;
import java.util.HashSet;
import java.util.List;
import java.util.Map;
import java.util.NoSuchElementException;
import java.util.Set;
import java.util.regex.Matcher;
import java.util.regex.Pattern;

/**
 * The document once more, written another way and without care for speed: a tree of objects, whole
 * copies of the state for undo, every effect step by step over listed orders, tokens by a pattern.
 */
final class Model {
    static final int NO_AMOUNT = -1000000000;
    private static final int[] LEAST = {0, 0, 0, 1, 10};
    private static final int[] MOST = {999, 999, 999, 200, 100};
    private static final List<List<Integer>> ORDERS = new ArrayList<>();

    static {
        listOrders(new ArrayList<>());
    }

    /** A state that is never changed in place but by the act that made it. */
    private static final class State {
        int scenes = 1;
        final List<Integer> parents = new ArrayList<>();
        final List<Boolean> groups = new ArrayList<>();
        final Map<List<Integer>, int[]> factors = new HashMap<>();

        State copy() {
            State s = new State();
            s.scenes = scenes;
            s.parents.addAll(parents);
            s.groups.addAll(groups);
            factors.forEach((key, row) -> s.factors.put(key, row.clone()));
            return s;
        }

        void add(int parent, boolean group) {
            parents.add(parent);
            groups.add(group);
            for (int scene = 0; scene < scenes && !group; scene++) {
                factors.put(List.of(parents.size() - 1, scene), new int[] {0, 0, 0, 100, 100});
            }
        }

        int[] row(int leaf, int scene) {
            return factors.get(List.of(leaf, scene));
        }
    }

    private static final class Fault extends Exception {
        private static final long serialVersionUID = 1L;
        final int kind;
        final int place;

        Fault(int kind, int place) {
            this.kind = kind;
            this.place = place;
        }
    }

    private State state = new State();
    private final ArrayList<State> past = new ArrayList<>();
    private byte[] tape = new byte[0];
    private int fault = 0;
    private List<int[]> tokens;
    private List<String> words;
    private int at;

    Model() {
        state.add(-1, true);
    }

    private static void listOrders(List<Integer> begun) {
        if (begun.size() == 5) {
            ORDERS.add(new ArrayList<>(begun));
            return;
        }
        for (int f = 0; f < 5; f++) {
            if (!begun.contains(f)) {
                begun.add(f);
                listOrders(begun);
                begun.remove(begun.size() - 1);
            }
        }
    }

    int feed(int a, int b, int c, int d, int e) {
        if (tape.length > 620) {
            return -1;
        }
        java.nio.ByteBuffer buffer = java.nio.ByteBuffer.allocate(tape.length + 20);
        buffer.put(tape).putInt(a).putInt(b).putInt(c).putInt(d).putInt(e);
        tape = buffer.array();
        return tape.length;
    }

    /** The tape at once, without the calls that would bring it. */
    void tape(byte[] bytes) {
        tape = bytes.clone();
    }

    boolean end(int n) {
        if (n < 0 || n > tape.length) {
            return false;
        }
        tape = Arrays.copyOf(tape, n);
        return true;
    }

    int text() {
        String text = new String(tape, java.nio.charset.StandardCharsets.ISO_8859_1);
        tape = new byte[0];
        fault = 0;
        try {
            cut(text);
            State read = new State();
            int lines = parse(read);
            state = read;
            past.clear();
            return lines;
        } catch (Fault f) {
            fault = f.kind;
            return -1 - f.place;
        }
    }

    /** Kinds: 0 none, 1 a word, 2 a number, 3 the sign, 4 the end. */
    private void cut(String text) {
        tokens = new ArrayList<>();
        words = new ArrayList<>();
        at = 0;
        Matcher m = Pattern.compile("[a-z0-9]+|[^ \n]").matcher(text);
        while (m.find()) {
            String word = m.group();
            int kind = word.matches("[a-z]+") ? 1 : word.matches("[0-9]{1,4}") ? 2 : word.equals(";") ? 3 : 0;
            if (m.start() < 600) {
                tokens.add(new int[] {kind, m.start()});
                words.add(word);
            }
        }
        tokens.add(text.length() > 600 ? new int[] {0, 600} : new int[] {4, text.length()});
        words.add("");
    }

    private int parse(State s) throws Fault {
        need(words.get(at).equals("scenes"), 1);
        at++;
        s.scenes = number(1, 4);
        sign();
        s.add(-1, true);
        int lines = 1;
        Set<List<Integer>> told = new HashSet<>();
        while (tokens.get(at)[0] != 4) {
            String word = words.get(at);
            need(Set.of("group", "line", "set").contains(word), 1);
            if (word.equals("set")) {
                at++;
                set(s, told);
            } else {
                need(s.parents.size() < 16, 3);
                at++;
                int parent = number(0, 9999);
                at--;
                need(parent < s.groups.size() && s.groups.get(parent), 2);
                at++;
                s.add(parent, word.equals("group"));
            }
            sign();
            lines++;
        }
        return lines;
    }

    private void set(State s, Set<List<Integer>> told) throws Fault {
        int leaf = number(0, 9999);
        at--;
        need(leaf < s.groups.size() && !s.groups.get(leaf), 2);
        at++;
        int scene = number(0, s.scenes - 1);
        at--;
        need(told.add(List.of(leaf, scene)), 2);
        at++;
        for (int f = 0; f < 5; f++) {
            s.row(leaf, scene)[f] = number(LEAST[f], MOST[f]);
        }
    }

    private int number(int least, int most) throws Fault {
        need(tokens.get(at)[0] == 2, 1);
        int n = Integer.parseInt(words.get(at));
        need(n >= least && n <= most, 2);
        at++;
        return n;
    }

    private void sign() throws Fault {
        need(tokens.get(at)[0] == 3, 1);
        at++;
    }

    private void need(boolean sound, int kind) throws Fault {
        if (!sound) {
            throw new Fault(kind, tokens.get(at)[1]);
        }
    }

    int fault() {
        return fault;
    }

    int now(int what) {
        int[] all = {state.scenes, state.parents.size(), leaves(0).size(), past.size(), tape.length};
        return what < 0 || what >= all.length ? -1 : all[what];
    }

    private boolean isNode(int n) {
        return n >= 0 && n < state.parents.size();
    }

    private boolean isGroup(int n) {
        return isNode(n) && state.groups.get(n);
    }

    private boolean isLeaf(int n) {
        return isNode(n) && !state.groups.get(n);
    }

    private boolean isScene(int... scenes) {
        for (int s : scenes) {
            if (s < 0 || s >= state.scenes) {
                return false;
            }
        }
        return true;
    }

    private List<Integer> children(int n) {
        List<Integer> found = new ArrayList<>();
        for (int i = 0; i < state.parents.size(); i++) {
            if (state.parents.get(i) == n) {
                found.add(i);
            }
        }
        return found;
    }

    private List<Integer> leaves(int n) {
        List<Integer> found = new ArrayList<>();
        if (isLeaf(n)) {
            found.add(n);
        }
        for (int child : children(n)) {
            found.addAll(leaves(child));
        }
        return found;
    }

    private static int bits(List<Integer> nodes) {
        BigInteger all = BigInteger.ZERO;
        for (int n : nodes) {
            all = all.setBit(n);
        }
        return all.intValueExact();
    }

    int node(int n, int what) {
        if (!isNode(n) || what < 0 || what > 3) {
            throw new NoSuchElementException();
        }
        if (what == 0) {
            return state.parents.get(n);
        }
        return what == 1 ? (isGroup(n) ? 1 : 0) : bits(what == 2 ? children(n) : leaves(n));
    }

    int factor(int leaf, int scene, int f) {
        return isLeaf(leaf) && isScene(scene) && f >= 0 && f < 5 ? state.row(leaf, scene)[f] : -1;
    }

    private static int worth(int[] r) {
        return r[0] * ((int) Math.floor(r[1] * r[3] / 100) - (int) Math.floor(r[2] * 100 / r[4]));
    }

    int value(int n, int scene) {
        if (!isNode(n) || !isScene(scene)) {
            return NO_AMOUNT;
        }
        return leaves(n).stream().mapToInt(leaf -> worth(state.row(leaf, scene))).sum();
    }

    int how(int leaf, int a, int b) {
        if (!isLeaf(leaf) || !isScene(a, b)) {
            return -1;
        }
        int before = state.row(leaf, a)[0];
        int after = state.row(leaf, b)[0];
        return before == 0 && after > 0 ? 1 : before > 0 && after == 0 ? 2 : 0;
    }

    int order(int n) {
        if (n < 0 || n >= ORDERS.size()) {
            return -1;
        }
        StringBuilder digits = new StringBuilder();
        ORDERS.get(n).forEach(digits::append);
        return Integer.parseInt(digits.toString());
    }

    private int[] steps(int leaf, int a, int b, int order) {
        int[] effects = new int[8];
        int[] row = state.row(leaf, a).clone();
        for (int f : ORDERS.get(order)) {
            int before = worth(row);
            row[f] = state.row(leaf, b)[f];
            effects[f] = worth(row) - before;
        }
        return effects;
    }

    private int[] means(int leaf, int a, int b) {
        long[] sums = new long[5];
        for (int order = 0; order < 120; order++) {
            int[] one = steps(leaf, a, b, order);
            for (int f = 0; f < 5; f++) {
                sums[f] += one[f];
            }
        }
        int[] effects = new int[8];
        effects[7] = value(leaf, b) - value(leaf, a);
        for (int f = 0; f < 5; f++) {
            effects[f] = (int) (sums[f] / 120);
            effects[7] -= effects[f];
        }
        return effects;
    }

    private int leafEffect(int leaf, int a, int b, int order, int k) {
        int fate = how(leaf, a, b);
        if (fate != 0) {
            return k == 4 + fate ? value(leaf, b) - value(leaf, a) : 0;
        }
        return (order < 0 ? means(leaf, a, b) : steps(leaf, a, b, order))[k];
    }

    int effect(int n, int a, int b, int order, int k) {
        if (!isNode(n) || !isScene(a, b) || order < -1 || order > 119 || k < 0 || k > 7) {
            return NO_AMOUNT;
        }
        return leaves(n).stream().mapToInt(leaf -> leafEffect(leaf, a, b, order, k)).sum();
    }

    private int staying(int n, int a, int b, int scene) {
        return leaves(n).stream().filter(leaf -> how(leaf, a, b) == 0)
                .mapToInt(leaf -> state.row(leaf, scene)[0]).sum();
    }

    int mix(int n, int a, int b) {
        if (!isNode(n) || n == 0 || !isScene(a, b)) {
            return NO_AMOUNT;
        }
        int parent = state.parents.get(n);
        long base = staying(parent, a, b, a);
        if (base == 0) {
            return 0;
        }
        return (int) (staying(n, a, b, b) - (long) staying(parent, a, b, b) * staying(n, a, b, a) / base);
    }

    int flatters(int n, int a, int b, int k) {
        if (!isNode(n) || !isScene(a, b) || k < 0 || k > 4) {
            return -1;
        }
        int best = 0;
        int most = Integer.MIN_VALUE;
        for (int order = 0; order < 120; order++) {
            int gain = effect(n, a, b, order, k);
            if (gain > most) {
                most = gain;
                best = order;
            }
        }
        return best;
    }

    private long size(int n, int a, int b) {
        return Math.abs((long) value(n, b) - value(n, a));
    }

    int mover(int a, int b, int k) {
        if (!isScene(a, b)) {
            return -1;
        }
        List<Integer> all = new ArrayList<>(leaves(0));
        all.sort((p, q) -> size(p, a, b) != size(q, a, b) ? Long.compare(size(q, a, b), size(p, a, b)) : p - q);
        return k < 0 || k >= all.size() ? -1 : all.get(k);
    }

    int branch(int a, int b) {
        if (!isScene(a, b)) {
            return -1;
        }
        int best = -2;
        for (int n = state.parents.size() - 1; n > 0; n--) {
            if (isGroup(n) && (best < 0 || size(n, a, b) >= size(best, a, b))) {
                best = n;
            }
        }
        return best;
    }

    private boolean isNumber(int leaf, int scene, int f, int v) {
        return factor(leaf, scene, f) >= 0 && v >= LEAST[f] && v <= MOST[f];
    }

    int would(int leaf, int scene, int f, int v) {
        if (!isNumber(leaf, scene, f, v)) {
            return NO_AMOUNT;
        }
        State saved = state;
        int before = value(0, scene);
        state = state.copy();
        state.row(leaf, scene)[f] = v;
        int after = value(0, scene);
        state = saved;
        return after - before;
    }

    int needs(int leaf, int scene, int v) {
        if (!isLeaf(leaf) || !isScene(scene) || v < -999999999 || v > 999999999) {
            return -1;
        }
        int now = value(0, scene);
        int[] row = state.row(leaf, scene).clone();
        int own = worth(row);
        for (int units = 0; units <= 999; units++) {
            row[0] = units;
            if (now - own + worth(row) >= v) {
                return units;
            }
        }
        return -2;
    }

    private void keep() {
        past.add(state);
        state = state.copy();
        if (past.size() > 10) {
            past.remove(0);
        }
    }

    int set(int leaf, int scene, int f, int v) {
        if (!isNumber(leaf, scene, f, v)) {
            return -1;
        }
        keep();
        int was = state.row(leaf, scene)[f];
        state.row(leaf, scene)[f] = v;
        return was;
    }

    int copy(int a, int b) {
        if (!isScene(a, b) || a == b) {
            return -1;
        }
        keep();
        int others = 0;
        for (int leaf : leaves(0)) {
            for (int f = 0; f < 5; f++) {
                others += state.row(leaf, a)[f] == state.row(leaf, b)[f] ? 0 : 1;
            }
            state.factors.put(List.of(leaf, b), state.row(leaf, a).clone());
        }
        return others;
    }

    private boolean holds(int n, int other) {
        return n == other || children(n).stream().anyMatch(child -> holds(child, other));
    }

    boolean move(int n, int group) {
        if (!isNode(n) || n == 0 || !isGroup(group) || state.parents.get(n) == group || holds(n, group)) {
            return false;
        }
        keep();
        state.parents.set(n, group);
        return true;
    }

    int grow(int group) {
        if (!isGroup(group)) {
            return -1;
        }
        if (state.parents.size() == 20) {
            return -2;
        }
        keep();
        state.add(group, false);
        return state.parents.size() - 1;
    }

    int undo() {
        if (past.isEmpty()) {
            return -1;
        }
        state = past.remove(past.size() - 1);
        return past.size();
    }
}
