/** The boundary cases of the Terms (a TEXT, its TOKENS, its FAULTS) and of promises 1 to 6. */
public final class TextEdgesTest {
    private static final int MIN = Integer.MIN_VALUE;
    private static final int MAX = Integer.MAX_VALUE;

    public static void main(String[] args) {
        newObject();
        newObjectsShareNothing();
        feedUntilFull();
        feedRefused();
        feedEachByte();
        endOfEachLength();
        endRefused();
        textOfNothing();
        textOfMostLines();
        textWithFaultLeavesAll();
        textWithoutFaultForgetsAll();
        faultOfTheLatestText();
        nowOfEach();
        nowRefused();
        everyByteAsToken();
        everyLetterOfTheWords();
        digitsOfNumbers();
        scenesOneToFour();
        parentsToldAhead();
        leavesToldAhead();
        scenesBelowTheirNumber();
        factorsLeastAndMost();
        setOnceOfLeafAndScene();
        fifteenNodes();
        faultsTheFirstAlongTheText();
        everyBeginningOfAText();
        everyEndOfATape();
        everyPlaceRoundTheSixHundredth();
        Check.finish("TextEdgesTest");
    }

    /** A text in an object of its own: what text() answers, and the kind of its FAULT. */
    private static void due(String text, int answer, int kind) {
        VarianceBridge x = new VarianceBridge();
        Check.due("text of [" + text + "]", Check.readText(x, text), answer);
        Check.due("fault of [" + text + "]", x.fault(), kind);
        Check.due("tape behind [" + text + "]", x.now(4), 0);
    }

    private static void dueLikeModel(String text) {
        VarianceBridge x = new VarianceBridge();
        Model m = new Model();
        byte[] bytes = Check.bytesOf(text);
        Check.feedBytes(x, bytes);
        m.tape(bytes);
        Check.due("text of [" + text + "]", x.text(), m.text());
        Check.due("fault of [" + text + "]", x.fault(), m.fault());
        Check.due("scenes behind [" + text + "]", x.now(0), m.now(0));
        Check.due("nodes behind [" + text + "]", x.now(1), m.now(1));
    }

    // Promise 1.

    private static void newObject() {
        VarianceBridge x = new VarianceBridge();
        int[] due = {1, 1, 0, 0, 0};
        for (int what = 0; what < 5; what++) {
            Check.due("new: now(" + what + ")", x.now(what), due[what]);
        }
        Check.due("one scene", x.value(0, 0), 0);
        Check.due("no second scene", x.value(0, 1), Check.NO_AMOUNT);
        Check.due("the top has no parent", Settled.node(x, 0, 0), -1);
        Check.due("the top is a group", Settled.node(x, 0, 1), 1);
        Check.due("nothing below the top", Settled.node(x, 0, 2), 0);
        Check.due("no leaves below the top", Settled.node(x, 0, 3), 0);
        Check.due("the top is alone", Settled.node(x, 1, 0), Settled.THROWS);
        Check.due("the top has no factors", x.factor(0, 0, 0), -1);
        Check.due("no first leaf", x.mover(0, 0, 0), -1);
        Check.due("no group beside the top", x.branch(0, 0), -2);
        Check.due("one scene alone: none to copy to", x.copy(0, 1), -1);
        Check.due("nothing to undo", x.undo(), -1);
        Check.due("no fault ahead of any text", x.fault(), 0);
        Check.due("an empty tape has no byte", x.end(1), false);
        Check.due("an empty tape has 0 bytes", x.end(0), true);
        Check.due("it can grow at once", x.grow(0), 1);
        Settled.refusedWhenNew("node(1, 0)", Settled.THROWS, y -> Settled.node(y, 1, 0));
        Settled.refusedWhenNew("end(1)", 0, y -> y.end(1) ? 1 : 0);
        Settled.refusedWhenNew("undo()", -1, VarianceBridge::undo);
        Settled.refusedWhenNew("grow(1)", -1, y -> y.grow(1));
        Settled.refusedWhenNew("copy(0, 0)", -1, y -> y.copy(0, 0));
        Settled.refusedWhenNew("copy(0, 1)", -1, y -> y.copy(0, 1));
        Settled.refusedWhenNew("move(0, 0)", 0, y -> y.move(0, 0) ? 1 : 0);
        Settled.refusedWhenNew("set(0, 0, 0, 0)", -1, y -> y.set(0, 0, 0, 0));
    }

    private static void newObjectsShareNothing() {
        VarianceBridge x = Settled.usual();
        VarianceBridge y = new VarianceBridge();
        int[] due = {1, 1, 0, 0, 0};
        for (int what = 0; what < 5; what++) {
            Check.due("beside another object: now(" + what + ")", y.now(what), due[what]);
        }
        Check.due("its fault", y.fault(), 0);
        y.grow(0);
        y.set(1, 0, 0, 999);
        y.feed(MAX, MAX, MAX, MAX, MAX);
        Check.dueText("the other object", Settled.story(x), Settled.story(Settled.usual()));
    }

    // Promise 2.

    private static void feedUntilFull() {
        VarianceBridge x = new VarianceBridge();
        for (int n = 20; n <= 640; n += 20) {
            Check.due("feed to " + n, x.feed(0, 0, 0, 0, 0), n);
            Check.due("tape of " + n, x.now(4), n);
        }
        for (int left = 640; left >= 600; left--) {
            VarianceBridge y = Settled.full();
            Check.due("end(" + left + ")", y.end(left), true);
            int due = left <= 620 ? left + 20 : -1;
            Check.due("feed behind " + left, y.feed(0, 0, 0, 0, 0), due);
            Check.due("tape behind it", y.now(4), left <= 620 ? left + 20 : left);
            Check.due("once more, " + left, y.feed(0, 0, 0, 0, 0), left == 600 ? 640 : -1);
        }
    }

    private static void feedRefused() {
        Settled.refusedWhenFull("feed of zeros", -1, x -> x.feed(0, 0, 0, 0, 0));
        Settled.refusedWhenFull("feed of signs", -1, x -> x.feed(0x3b3b3b3b, -1, MIN, MAX, 0x3b3b3b3b));
        // None come: not even those that would still have a place.
        VarianceBridge x = new VarianceBridge();
        Check.feedBytes(x, Check.bytesOf("scenes 4;" + " ".repeat(621 - 9)));
        Check.due("feed behind 621", x.feed(0x21212121, 0x21212121, 0x21212121, 0x21212121, 0x21212121), -1);
        Check.due("tape", x.now(4), 621);
        Check.due("a longer end", x.end(622), false);
        x.end(600);
        Check.due("text", x.text(), 1);
        Check.due("scenes", x.now(0), 4);
    }

    /** Each of the twenty bytes of a feed, behind 0, 1, 2 .. bytes that are there already. */
    private static void feedEachByte() {
        String text = "scenes 2;line 0;set 1 1 123 456 789 101 98;line 0;set 2 0 987 654 321 145 67;";
        int[] first = {123, 456, 789, 101, 98};
        int[] second = {987, 654, 321, 145, 67};
        for (int blanks = 0; blanks < 20; blanks++) {
            VarianceBridge x = new VarianceBridge();
            x.feed(0x20202020, 0x20202020, 0x20202020, 0x20202020, 0x20202020);
            Check.due("end", x.end(blanks), true);
            byte[] bytes = Check.bytesOf(text);
            for (int at = 0; at < bytes.length; at += 20) {
                int[] five = {0, 0, 0, 0, 0};
                for (int i = 0; i < 20; i++) {
                    five[i / 4] = five[i / 4] << 8 | (at + i < bytes.length ? bytes[at + i] : 0);
                }
                Check.due("feed", x.feed(five[0], five[1], five[2], five[3], five[4]), blanks + at + 20);
            }
            x.end(blanks + bytes.length);
            Check.due("text behind " + blanks + " blanks", x.text(), 5);
            for (int k = 0; k < 5; k++) {
                Check.due("factor " + k, x.factor(1, 1, k), first[k]);
                Check.due("factor " + k, x.factor(2, 0, k), second[k]);
            }
        }
        // A byte whose highest bit is set is one byte and spoils none beside it.
        VarianceBridge x = new VarianceBridge();
        x.feed(0x7363656e, 0x65732032, 0x3b2020ff, -1, MIN);
        Check.due("a byte of 255 at 11", x.text(), -12);
        x.feed(0x7363656e, 0x65732032, 0x3bff2020, 0x20202020, 0x20202020);
        Check.due("a byte of 255 at 9", x.text(), -10);
        x.feed(0xf363656e, 0x65732032, 0x3b202020, 0x20202020, 0x20202020);
        Check.due("a letter with the highest bit", x.text(), -1);
        x.feed(0x7363656e, 0x65732032, 0xbb202020, 0x20202020, 0x20202020);
        Check.due("the sign with the highest bit", x.text(), -9);
    }

    // Promise 3.

    private static void endOfEachLength() {
        for (int n = 0; n <= 41; n++) {
            VarianceBridge x = new VarianceBridge();
            x.feed(0, 0, 0, 0, 0);
            x.feed(0, 0, 0, 0, 0);
            Check.due("end(" + n + ") of 40", x.end(n), n <= 40);
            Check.due("tape behind end(" + n + ")", x.now(4), Math.min(n, 40));
            Check.due("the same once more", x.end(x.now(4)), true);
            Check.due("one more than there are", x.end(x.now(4) + 1), false);
        }
        VarianceBridge y = Settled.full();
        Check.due("end(641) of 640", y.end(641), false);
        Check.due("end(640) of 640", y.end(640), true);
        Check.due("tape", y.now(4), 640);
        Check.due("end(0) of 640", y.end(0), true);
        Check.due("tape", y.now(4), 0);
        Check.due("end(1) of 0", y.end(1), false);
        // The first n are left, not the last.
        VarianceBridge z = new VarianceBridge();
        Check.feedBytes(z, Check.bytesOf("scenes 4;scenes 3;"));
        z.end(9);
        Check.due("text of the first nine", z.text(), 1);
        Check.due("scenes", z.now(0), 4);
    }

    private static void endRefused() {
        for (int n : new int[] {MIN, MIN + 1, -640, -8, -7, -2, -1, 8, 20, 640, 641, MAX - 1, MAX}) {
            Settled.refused("end(" + n + ")", 0, x -> x.end(n) ? 1 : 0);
        }
        Settled.refusedWhenFull("end(641)", 0, x -> x.end(641) ? 1 : 0);
        Settled.refusedWhenFull("end(-1)", 0, x -> x.end(-1) ? 1 : 0);
    }

    // Promise 4.

    private static void textOfNothing() {
        VarianceBridge x = new VarianceBridge();
        Check.due("text of an empty tape", x.text(), -1);
        Check.due("its fault", x.fault(), 1);
        Check.due("and again", x.text(), -1);
        Check.due("scenes", x.now(0), 1);
        VarianceBridge y = Check.made("scenes 4;line 0;");
        Check.due("a text was read: the tape is empty", y.text(), -1);
        Check.due("its fault", y.fault(), 1);
        Check.due("scenes", y.now(0), 4);
        for (int n = 1; n <= 640; n += 71) {
            due(" ".repeat(n), -1 - Math.min(n, 600), 1);
            due("\n".repeat(n), -1 - Math.min(n, 600), 1);
        }
    }

    /** As many LINES as 600 bytes can hold: each is counted, with that of 'scenes'. */
    private static void textOfMostLines() {
        StringBuilder text = new StringBuilder("scenes 4;");
        int lines = 1;
        for (int n = 0; n < 15; n++) {
            due(text.toString(), lines, 0);
            text.append("line 0;");
            lines++;
        }
        for (int i = 0; text.length() + 19 <= 600; i++) {
            due(text.toString(), lines, 0);
            text.append("set ").append(1 + i / 4).append(' ').append(i % 4).append(" 0 0 0 1 10;");
            lines++;
        }
        due(text.toString(), lines, 0);
        Check.due("lines of the longest text", lines, 41);
    }

    private static void textWithFaultLeavesAll() {
        String[] texts = {
            "", " ", "scenes", "scenes 5;", "scenes 2;line 0;line 0;set 1 1 9 9 9 9 99;x", "scenes 2;group 9;",
            "scenes 1;" + "line 0;".repeat(16), "scenes 4;" + " ".repeat(592), "scenes 4;line 0;set 1 0 1 1 1 1 9;",
        };
        int[] kinds = {1, 1, 1, 2, 1, 2, 3, 1, 2};
        for (int i = 0; i < texts.length; i++) {
            VarianceBridge x = Settled.usual();
            Check.due("a fault", Check.readText(x, texts[i]) < 0, true);
            Check.due("its kind", x.fault(), kinds[i]);
            Check.due("the tape is empty", x.now(4), 0);
            // Back to the tape and the kind of FAULT of the usual object: all else must be as there.
            Check.readText(x, "scenes 9;");
            Check.feedBytes(x, Check.bytesOf("scenes "));
            Check.dueText("what [" + texts[i] + "] leaves", Settled.story(x), Settled.story(Settled.usual()));
        }
    }

    private static void textWithoutFaultForgetsAll() {
        VarianceBridge x = Settled.usual();
        Check.due("the least text", Check.readText(x, "scenes 1;"), 1);
        int[] due = {1, 1, 0, 0, 0};
        for (int what = 0; what < 5; what++) {
            Check.due("now(" + what + ")", x.now(what), due[what]);
        }
        Check.due("fault", x.fault(), 0);
        Check.due("undo", x.undo(), -1);
        Check.due("no scene 1", x.value(0, 1), Check.NO_AMOUNT);
        Check.due("no node 1", Settled.node(x, 1, 0), Settled.THROWS);
        Check.due("leaves", Settled.node(x, 0, 3), 0);
        // What grows now is of no use of what was there.
        for (int n = 1; n <= 7; n++) {
            Check.due("grow", x.grow(0), n);
            for (int k = 0; k < 5; k++) {
                Check.due("factor " + k + " of " + n, x.factor(n, 0, k), k < 3 ? 0 : 100);
            }
        }
        VarianceBridge y = Settled.full();
        Check.due("a text behind 20 nodes", Check.readText(y, "scenes 4;line 0;group 0;line 2;"), 4);
        Check.due("nodes", y.now(1), 4);
        Check.due("leaves", y.now(2), 2);
        Check.due("undoable", y.now(3), 0);
        Check.due("node 2 is a group", Settled.node(y, 2, 1), 1);
        Check.due("node 1 is none", Settled.node(y, 1, 1), 0);
        Check.due("units", y.factor(1, 3, 0), 0);
        Check.due("rate", y.factor(3, 3, 3), 100);
    }

    // Promise 5.

    private static void faultOfTheLatestText() {
        VarianceBridge x = new VarianceBridge();
        Check.due("ahead of any", x.fault(), 0);
        x.feed(1, 1, 1, 1, 1);
        Check.due("a feed is no text", x.fault(), 0);
        String[] texts = {"x", "scenes 1;", "scenes 0;", "scenes 1;" + "group 0;".repeat(16), "scenes 1;", "scenes 5;",
            "", "scenes 2;line 0;"};
        int[] kinds = {1, 0, 2, 3, 0, 2, 1, 0};
        for (int i = 0; i < texts.length; i++) {
            Check.readText(x, texts[i]);
            Check.due("kind of [" + texts[i] + "]", x.fault(), kinds[i]);
            Check.due("and asked again", x.fault(), kinds[i]);
        }
        x = new VarianceBridge();
        Check.readText(x, "scenes 5;");
        x.feed(1, 1, 1, 1, 1);
        x.end(0);
        x.grow(0);
        x.set(1, 0, 0, 1);
        x.undo();
        x.undo();
        x.undo();
        x.now(9);
        Settled.node(x, 9, 9);
        Check.due("other calls leave it", x.fault(), 2);
    }

    // Promise 6.

    private static void nowOfEach() {
        int[] usual = {3, 8, 4, 4, 7};
        int[] full = {1, 20, 5, 10, 640};
        for (int what = 0; what < 5; what++) {
            Check.due("usual: now(" + what + ")", Settled.usual().now(what), usual[what]);
            Check.due("full: now(" + what + ")", Settled.full().now(what), full[what]);
        }
        VarianceBridge leaves = Check.made("scenes 4;" + "line 0;".repeat(15));
        Check.due("scenes", leaves.now(0), 4);
        Check.due("nodes", leaves.now(1), 16);
        Check.due("leaves", leaves.now(2), 15);
        VarianceBridge groups = Check.made("scenes 4;" + "group 0;".repeat(15));
        Check.due("nodes", groups.now(1), 16);
        Check.due("no leaves", groups.now(2), 0);
    }

    private static void nowRefused() {
        for (int what : new int[] {MIN, -2, -1, 5, 6, 32, MAX}) {
            Settled.refused("now(" + what + ")", -1, x -> x.now(what));
            Settled.refusedWhenNew("now(" + what + ")", -1, x -> x.now(what));
        }
    }

    // The Terms.

    private static boolean isBlank(int b) {
        return b == 32 || b == 10;
    }

    private static boolean isDigit(int b) {
        return b >= 48 && b <= 57;
    }

    private static boolean isLetter(int b) {
        return b >= 97 && b <= 122;
    }

    /** Every byte there is, in the places where a blank, a NUMBER's end, a WORD or a sign may come. */
    private static void everyByteAsToken() {
        for (int b = 0; b < 256; b++) {
            String sign = String.valueOf((char) b);
            boolean goesOn = isLetter(b) || isDigit(b);
            if (isBlank(b)) {
                due("scenes" + sign + "1;", 1, 0);
                due("scenes 1" + sign + ";", 1, 0);
                due("scenes 1;" + sign, 1, 0);
                due(sign + "scenes 1;", 1, 0);
                due(sign + sign + "scenes" + sign + sign + "1" + sign + sign + ";" + sign + sign, 1, 0);
                due("sce" + sign + "nes 1;", -1, 1);
                due("scenes 1;line 0" + sign + "0;", -17, 1);
            } else {
                due("scenes" + sign + "1;", goesOn ? -1 : -7, 1);
                due("scenes 1" + sign + ";", b == 59 ? -10 : goesOn ? -8 : -9, isDigit(b) ? 2 : 1);
                due("scenes 1;" + sign, -10, 1);
                due(sign + "scenes 1;", -1, 1);
                due("sce" + sign + "nes 1;", -1, 1);
            }
            if (b == 59) {
                due("scenes 1" + sign, 1, 0);
            } else {
                due("scenes 1 " + sign, isBlank(b) ? -11 : -10, 1);
            }
        }
    }

    /** A WORD with one letter another, missing, twice, or no small one: it can't come, at its place. */
    private static void everyLetterOfTheWords() {
        String[] heads = {"", "scenes 1;", "scenes 1;", "scenes 1;line 0;"};
        String[] words = {"scenes", "group", "line", "set"};
        String[] tails = {" 1;", " 0;", " 0;", " 1 0 1 1 1 1 10;"};
        for (int i = 0; i < words.length; i++) {
            String head = heads[i];
            String word = words[i];
            String tail = tails[i];
            int fault = -1 - head.length();
            due(head + word + tail, i == 0 ? 1 : i == 3 ? 3 : 2, 0);
            due(head + word + "s" + tail, fault, 1);
            due(head + "a" + word + tail, fault, 1);
            for (int at = 0; at < word.length(); at++) {
                String before = head + word.substring(0, at);
                String behind = word.substring(at + 1) + tail;
                char letter = word.charAt(at);
                due(before + (char) (letter + 1) + behind, fault, 1);
                due(before + (char) (letter - 1) + behind, fault, 1);
                due(before + (char) (letter - 32) + behind, fault, 1);
                due(before + (char) (letter + 128) + behind, fault, 1);
                due(before + letter + letter + behind, fault, 1);
                due(before + behind, fault, 1);
            }
        }
    }

    private static void digitsOfNumbers() {
        String[] nothings = {"", "0", "00", "000", "0000"};
        for (int zeros = 0; zeros <= 4; zeros++) {
            boolean taken = zeros + 1 <= 4;
            due("scenes " + nothings[zeros] + "2;", taken ? 1 : -8, taken ? 0 : 1);
            due("scenes 1;line " + nothings[zeros] + "0;", taken ? 2 : -15, taken ? 0 : 1);
            String set = "scenes 1;line 0;set " + nothings[zeros] + "1 0 ";
            due(set + "5 5 5 5 55;", taken ? 3 : -21, taken ? 0 : 1);
            due("scenes 1;line 0;set 1 " + nothings[zeros] + "0 5 5 5 5 55;", taken ? 3 : -23, taken ? 0 : 1);
            for (int k = 0; k < 5; k++) {
                dueFactor(k, nothings[zeros] + "55", zeros + 2 <= 4 ? 0 : 1);
            }
        }
        dueFactor(0, "1234", 2);
        dueFactor(0, "12345", 1);
        dueFactor(0, "99999999999", 1);
        dueFactor(0, "4294967296", 1);
        dueFactor(0, "0000000000000000000000000000000055", 1);
        VarianceBridge x = Check.made("scenes 0002;line 0000;set 0001 0001 0999 099 9 0099 0011;");
        int[] due = {999, 99, 9, 99, 11};
        for (int k = 0; k < 5; k++) {
            Check.due("with noughts ahead, " + k, x.factor(1, 1, k), due[k]);
        }
    }

    private static void scenesOneToFour() {
        for (int n = 0; n <= 9999; n = n < 12 ? n + 1 : n * 3) {
            boolean taken = n >= 1 && n <= 4;
            due("scenes " + n + ";", taken ? 1 : -8, taken ? 0 : 2);
        }
        due("scenes 9999;", -8, 2);
        for (int n = 1; n <= 4; n++) {
            VarianceBridge x = Check.made("scenes " + n + ";");
            Check.due("scenes", x.now(0), n);
            Check.due("the last scene", x.value(0, n - 1), 0);
            Check.due("the first beyond", x.value(0, n), Check.NO_AMOUNT);
        }
    }

    private static void parentsToldAhead() {
        String head = "scenes 1;group 0;line 0;group 1;";
        for (int parent = 0; parent <= 40; parent++) {
            boolean taken = parent == 0 || parent == 1 || parent == 3;
            due(head + "line " + parent + ";", taken ? 5 : -38, taken ? 0 : 2);
            due(head + "group " + parent + ";", taken ? 5 : -39, taken ? 0 : 2);
        }
        due(head + "line 9999;", -38, 2);
        due(head + "group 9999;", -39, 2);
        due("scenes 1;line 1;group 0;", -15, 2);
        due("scenes 1;group 1;", -16, 2);
        // One below the other, as deep as a text can go.
        StringBuilder deep = new StringBuilder("scenes 1;");
        for (int n = 0; n < 14; n++) {
            deep.append("group ").append(n).append(';');
        }
        VarianceBridge x = Check.made(deep + "line 14;set 15 0 7 9 2 100 100;");
        for (int n = 0; n <= 15; n++) {
            Check.due("parent of " + n, Settled.node(x, n, 0), n - 1);
            Check.due("leaves below " + n, Settled.node(x, n, 3), 1 << 15);
            Check.due("value of " + n, x.value(n, 0), 49);
        }
        Check.due("the uppermost into the lowest", x.move(1, 14), false);
        Check.due("the lowest to the top", x.move(14, 0), true);
        Check.due("value of 13", x.value(13, 0), 0);
    }

    private static void leavesToldAhead() {
        String head = "scenes 1;group 0;line 0;group 1;line 3;";
        for (int leaf = 0; leaf <= 40; leaf++) {
            boolean taken = leaf == 2 || leaf == 4;
            due(head + "set " + leaf + " 0 1 1 1 1 10;", taken ? 6 : -44, taken ? 0 : 2);
        }
        due(head + "set 9999 0 1 1 1 1 10;", -44, 2);
        due("scenes 1;set 1 0 1 1 1 1 10;line 0;", -14, 2);
        due("scenes 1;line 0;set 2 0 1 1 1 1 10;line 0;", -21, 2);
        due("scenes 1;line 0;line 0;set 2 0 1 1 1 1 10;", 4, 0);
    }

    private static void scenesBelowTheirNumber() {
        for (int n = 1; n <= 4; n++) {
            for (int scene = 0; scene <= 8; scene++) {
                String text = "scenes " + n + ";line 0;set 1 " + scene + " 1 1 1 1 10;";
                due(text, scene < n ? 3 : -23, scene < n ? 0 : 2);
            }
            due("scenes " + n + ";line 0;set 1 9999 1 1 1 1 10;", -23, 2);
        }
    }

    /** One FACTOR of a 'set' as told, the others well within: a FAULT of this kind at it, or none. */
    private static void dueFactor(int factor, String told, int kind) {
        StringBuilder text = new StringBuilder("scenes 1;line 0;set 1 0");
        int place = 0;
        for (int k = 0; k < 5; k++) {
            text.append(' ');
            place = k == factor ? text.length() : place;
            text.append(k == factor ? told : "50");
        }
        due(text.append(';').toString(), kind == 0 ? 3 : -1 - place, kind);
    }

    private static void factorsLeastAndMost() {
        for (int k = 0; k < 5; k++) {
            for (int v = 0; v <= 1001; v++) {
                boolean edge = v <= 12 || v >= 98 && v <= 102 || v >= 198 && v <= 202 || v >= 997;
                if (edge) {
                    boolean taken = v >= Settled.LEAST[k] && v <= Settled.MOST[k];
                    dueFactor(k, String.valueOf(v), taken ? 0 : 2);
                }
            }
            dueFactor(k, "9999", 2);
            dueFactor(k, "x", 1);
            dueFactor(k, ";", 1);
            dueFactor(k, "-1", 1);
        }
        VarianceBridge x = Check.made("scenes 2;line 0;set 1 0 0 0 0 1 10;set 1 1 999 999 999 200 100;");
        for (int k = 0; k < 5; k++) {
            Check.due("the least, " + k, x.factor(1, 0, k), Settled.LEAST[k]);
            Check.due("the most, " + k, x.factor(1, 1, k), Settled.MOST[k]);
        }
    }

    private static void setOnceOfLeafAndScene() {
        String head = "scenes 4;line 0;line 0;";
        String sets = "";
        for (int i = 0; i < 8; i++) {
            int leaf = 1 + i / 4;
            int scene = i % 4;
            String again = "set " + leaf + " " + scene + " 1 1 1 1 10;";
            due(head + sets + again, 4 + i, 0);
            sets += again;
            int place = head.length() + sets.length() + 6;
            due(head + sets + again, -1 - place, 2);
            due(head + sets + again + "x", -1 - place, 2);
        }
        // A second 'set' is refused, even one that sets nothing anew or behind one of the usual FACTORS.
        due("scenes 1;line 0;set 1 0 0 0 0 100 100;set 1 0 0 0 0 100 100;", -45, 2);
        // What an earlier text has set does not count.
        VarianceBridge x = new VarianceBridge();
        Check.due("once", Check.readText(x, "scenes 1;line 0;set 1 0 1 1 1 1 10;"), 3);
        Check.due("and once in another text", Check.readText(x, "scenes 1;line 0;set 1 0 2 1 1 1 10;"), 3);
        Check.due("with a fault", Check.readText(x, "scenes 1;line 0;set 1 0 3 1 1 1 10;x"), -36);
        Check.due("and once again", Check.readText(x, "scenes 1;line 0;set 1 0 4 1 1 1 10;"), 3);
        Check.due("units", x.factor(1, 0, 0), 4);
    }

    private static void fifteenNodes() {
        for (int n = 0; n <= 15; n++) {
            for (int kinds = 0; kinds < 3; kinds++) {
                StringBuilder text = new StringBuilder("scenes 1;");
                for (int i = 0; i < n; i++) {
                    text.append(kinds == 0 || kinds == 2 && i % 2 == 0 ? "group 0;" : "line 0;");
                }
                due(text.toString(), 1 + n, 0);
                boolean taken = n < 15;
                int place = -1 - text.length();
                due(text + "group 0;", taken ? 2 + n : place, taken ? 0 : 3);
                due(text + "line 0;", taken ? 2 + n : place, taken ? 0 : 3);
            }
        }
        // The 16th is at its WORD, whatever comes behind it; 'set' is none.
        String lines = "scenes 1;" + "line 0;".repeat(15);
        int place = -1 - lines.length();
        due(lines + "line", place, 3);
        due(lines + "group", place, 3);
        due(lines + "line;", place, 3);
        due(lines + "group 99999", place, 3);
        due(lines + " \n line 99;", place - 3, 3);
        due(lines + "line0;", place, 1);
        due(lines + "lines 0;", place, 1);
        due(lines + "lin", place, 1);
        due(lines + "set 15 0 1 1 1 1 10;", 17, 0);
        due(lines + "set 16 0 1 1 1 1 10;", place - 4, 2);
        due(lines + "set 15 0 1 1 1 1 10;line 0;", place - 20, 3);
        due(lines + "set 15 0 1 1 1 1 9;line 0;", place - 17, 2);
    }

    private static void faultsTheFirstAlongTheText() {
        // Two FAULTS: the first along the text, whatever their kinds.
        due("scenes 5;x", -8, 2);
        due("scenes x;group 9;", -8, 1);
        due("scenes 5 5;", -8, 2);
        due("scenes 1;line 9 ?", -15, 2);
        due("scenes 1;line ? 9", -15, 1);
        due("scenes 1;group 9;" + "line 0;".repeat(16), -16, 2);
        due("scenes 1;" + "line 0;".repeat(15) + "?line 0;", -115, 1);
        due("scenes 1;line 0;set 9 9 9999 ?", -21, 2);
        due("scenes 1;line 0;set 1 9 9999 ?", -23, 2);
        due("scenes 1;line 0;set 1 0 9999 ?", -25, 2);
        due("scenes 1;line 0;set 1 0 999 ? 9999", -29, 1);
        // One TOKEN with two: that which stands first in the list.
        due("scenes 5x;", -8, 1);
        due("scenes 55555;", -8, 1);
        due("scenes 1;line 99999;", -15, 1);
        due("scenes 1;line 0;set 99999 0 1 1 1 1 10;", -21, 1);
        due("scenes 1;line 0;set 1 0 1 1 1 1 10;set 1 00000 1 1 1 1 10;", -42, 1);
        // TOKENS that can't come, one by one along a text.
        String[] tokens = {"scenes", "1", ";", "line", "0", ";", "set", "1", "0", "1", "1", "1", "1", "10", ";",
            "group", "0", ";"};
        for (int i = 0; i < tokens.length; i++) {
            String head = String.join(" ", java.util.Arrays.copyOf(tokens, i));
            int place = i == 0 ? 0 : head.length() + 1;
            for (String other : new String[] {"scenes", "1", ";", "x", "?", "10000", "1x", "setx"}) {
                boolean kindFits = other.equals("1") && Character.isDigit(tokens[i].charAt(0));
                if (!kindFits && !other.equals(tokens[i])) {
                    due(i == 0 ? other : head + " " + other, -1 - place, 1);
                }
            }
        }
    }

    /** The end comes where it can't: at as many bytes as there are. */
    private static void everyBeginningOfAText() {
        String text = "scenes 2 ;group 0;\nline 1; set 2 1 12 34 56 78 90 ; line 0;";
        for (int n = 0; n <= text.length(); n++) {
            dueLikeModel(text.substring(0, n));
            dueLikeModel(text.substring(0, n) + " ");
            dueLikeModel(text.substring(0, n) + "?");
            dueLikeModel(text.substring(0, n) + "0");
            dueLikeModel(text.substring(0, n) + "a");
            dueLikeModel(text.substring(0, n) + ";");
        }
        due("scenes", -7, 1);
        due("scenes ", -8, 1);
        due("scenes 1", -9, 1);
        due("scenes 1  ", -11, 1);
        due("scenes 1;line", -14, 1);
        due("scenes 1;line 0", -16, 1);
        due("scenes 1;line 0\n\n\n", -19, 1);
    }

    /** What end() has cut off is gone, though it would go on with the last TOKEN or come as the next. */
    private static void everyEndOfATape() {
        String text = "scenes 2 ;group 0;\nline 1; set 2 1 12 34 56 78 90 ; line 0;";
        String full = text + " ".repeat(620 - text.length()) + "linelineline;;;;;;;;";
        for (int n = 0; n <= 640; n = n < text.length() || n >= 596 && n < 640 ? n + 1 : n < 596 ? 596 : 641) {
            String head = full.substring(0, n);
            VarianceBridge x = new VarianceBridge();
            Model m = new Model();
            Check.feedBytes(x, Check.bytesOf(full));
            Check.due("end(" + n + ")", x.end(n), true);
            m.tape(Check.bytesOf(head));
            Check.due("text of the first " + n, x.text(), m.text());
            Check.due("fault of the first " + n, x.fault(), m.fault());
        }
        VarianceBridge x = new VarianceBridge();
        Check.feedBytes(x, Check.bytesOf("scenes 19;"));
        x.end(8);
        Check.due("a digit that is gone", x.text(), -9);
        Check.due("the end can't come", x.fault(), 1);
        Check.feedBytes(x, Check.bytesOf("scenes 1;line 0;;"));
        x.end(15);
        Check.due("a sign that is gone", x.text(), -16);
        Check.feedBytes(x, Check.bytesOf("scenes 1;line 0;"));
        x.end(9);
        Check.due("a line that is gone", x.text(), 1);
        // A TOKEN up to the last byte that a tape can have.
        due("s".repeat(640), -1, 1);
        due("1".repeat(640), -1, 1);
        due(" ".repeat(599) + "s".repeat(41), -600, 1);
        due("scenes" + " ".repeat(593) + "1".repeat(41), -600, 1);
        due("scenes 1;" + " ".repeat(591) + "s".repeat(40), -601, 1);
    }

    private static void everyPlaceRoundTheSixHundredth() {
        String[] tails = {
            "", " ", ";", "line 0;", "line 0", "group 0;", "lime 0;", "$", "set 1 0 1 1 1 1 10;", "set 1 1 1 1 1 1 10;",
            "set 2 0", "set 1 0 1 1 1 1 9;", "set 1 0 1 1 1 1 00010;", "1", "linelineline", "line 9999;", "line 99999;",
        };
        for (int place = 570; place <= 601; place++) {
            for (String tail : tails) {
                String text = "scenes 1;line 0;" + " ".repeat(place - 16) + tail;
                dueLikeModel(text);
                dueLikeModel(text + " ");
                dueLikeModel(text + " ".repeat(640 - text.length()));
            }
        }
        String full = "scenes 1;" + "line 0;".repeat(15);
        for (int place = 590; place <= 601; place++) {
            dueLikeModel(full + " ".repeat(place - full.length()) + "group 0;");
            String blanks = " ".repeat(place - 6);
            dueLikeModel("scenes" + blanks + "0001;");
            dueLikeModel("scenes" + blanks + "9999;");
            dueLikeModel("scenes" + blanks + "00001;");
            dueLikeModel(blanks + "scenes 1;");
        }
        String sound = "scenes 1;";
        due(sound + " ".repeat(591), 1, 0);
        due(sound + " ".repeat(592), -601, 1);
        due(sound + " ".repeat(631), -601, 1);
        due(" ".repeat(591) + sound, 1, 0);
        due(" ".repeat(592) + sound, -601, 1);
        due(" ".repeat(599) + "scenes 1;", -601, 1);
        due(" ".repeat(599) + "scenez 1;", -600, 1);
        due(" ".repeat(600) + "scenes 1;", -601, 1);
        due("scenes" + " ".repeat(593) + "4", -601, 1);
        due("scenes" + " ".repeat(593) + "4;", -601, 1);
        due("scenes" + " ".repeat(593) + "5;", -600, 2);
        due("scenes" + " ".repeat(593) + "55;", -600, 2);
        due("scenes" + " ".repeat(593) + "00004;", -600, 1);
        due("scenes 1" + " ".repeat(591) + ";", 1, 0);
        due("scenes 1" + " ".repeat(592) + ";", -601, 1);
    }
}
