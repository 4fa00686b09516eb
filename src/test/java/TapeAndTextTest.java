/** Promises 1 to 6: a new object, the tape, and what a TEXT is. */
public final class TapeAndTextTest {
    public static void main(String[] args) {
        newObject();
        feed();
        end();
        soundTexts();
        tokensThatCannotCome();
        numbersNotAsTold();
        tooManyNodes();
        longTexts();
        faultLeavesAll();
        now();
        Check.finish("TapeAndTextTest");
    }

    private static void newObject() {
        VarianceBridge x = new VarianceBridge();
        Check.due("scenes", x.now(0), 1);
        Check.due("nodes", x.now(1), 1);
        Check.due("leaves", x.now(2), 0);
        Check.due("undoable", x.now(3), 0);
        Check.due("tape", x.now(4), 0);
        Check.due("the top is a group", x.node(0, 1), 1);
        Check.due("value of the top", x.value(0, 0), 0);
        Check.due("fault", x.fault(), 0);
        Check.due("undo", x.undo(), -1);
    }

    private static void feed() {
        VarianceBridge x = new VarianceBridge();
        for (int i = 1; i <= 32; i++) {
            Check.due("feed " + i, x.feed(i, -1, 0, Integer.MIN_VALUE, Integer.MAX_VALUE), 20 * i);
        }
        Check.due("feed 33", x.feed(0, 0, 0, 0, 0), -1);
        Check.due("tape", x.now(4), 640);
        Check.due("end(621)", x.end(621), true);
        Check.due("621 and 20", x.feed(0, 0, 0, 0, 0), -1);
        Check.due("tape", x.now(4), 621);
        Check.due("end(620)", x.end(620), true);
        Check.due("620 and 20", x.feed(0, 0, 0, 0, 0), 640);
        // Highest byte first, the numbers in their row: 'scen' 'es 3' ';' and blanks.
        x = new VarianceBridge();
        Check.due("feed", x.feed(0x7363656e, 0x65732033, 0x3b202020, 0x0a0a0a0a, 0x20202020), 20);
        Check.due("text", x.text(), 1);
        Check.due("scenes", x.now(0), 3);
    }

    private static void end() {
        VarianceBridge x = new VarianceBridge();
        Check.due("end(1) of none", x.end(1), false);
        Check.due("end(0) of none", x.end(0), true);
        x.feed(0, 0, 0, 0, 0);
        Check.due("end(-1)", x.end(-1), false);
        Check.due("end(min)", x.end(Integer.MIN_VALUE), false);
        Check.due("end(21)", x.end(21), false);
        Check.due("end(max)", x.end(Integer.MAX_VALUE), false);
        Check.due("tape", x.now(4), 20);
        Check.due("end(20)", x.end(20), true);
        Check.due("end(7)", x.end(7), true);
        Check.due("tape", x.now(4), 7);
        Check.due("end(8)", x.end(8), false);
        // What comes next stands right behind the bytes that were left.
        x.end(0);
        x.feed(0x7363656e, 0x65732021, 0x21212121, 0x21212121, 0x21212121);
        x.end(7);
        x.feed(0x323b2020, 0x20202020, 0x20202020, 0x20202020, 0x20202020);
        Check.due("text", x.text(), 1);
        Check.due("scenes", x.now(0), 2);
    }

    private static void soundTexts() {
        Check.dueLines("scenes 1;", 1);
        Check.dueLines("scenes 4;", 1);
        Check.dueLines("\n scenes\n\n0004 ; \n", 1);
        Check.dueLines("scenes 2;group 0;line 1;set 2 0 0 0 0 1 10;set 2 1 999 999 999 200 100;", 5);
        Check.dueLines("scenes 1;line 0;group 0000;line 02;set 3 0 1 2 3 4 0050;", 5);
        VarianceBridge x = Check.made("scenes 2;group 0;line 1;set 2 1 12 34 56 78 90;");
        int[] told = {12, 34, 56, 78, 90};
        int[] usual = {0, 0, 0, 100, 100};
        for (int k = 0; k < 5; k++) {
            Check.due("told factor " + k, x.factor(2, 1, k), told[k]);
            Check.due("factor without set " + k, x.factor(2, 0, k), usual[k]);
        }
        Check.due("text again", Check.readText(x, "scenes 1;line 0;"), 2);
        Check.due("scenes", x.now(0), 1);
        Check.due("nodes", x.now(1), 2);
        Check.due("nothing is left of the first text", x.factor(1, 0, 1), 0);
    }

    private static void tokensThatCannotCome() {
        Check.dueFault("", 1, 0);
        Check.dueFault("  \n ", 1, 4);
        Check.dueFault("scenes", 1, 6);
        Check.dueFault("scenes 1", 1, 8);
        Check.dueFault("scenes 1 \n", 1, 10);
        Check.dueFault("scenes2;", 1, 0);
        Check.dueFault("scene 2;", 1, 0);
        Check.dueFault("scenesx 2;", 1, 0);
        Check.dueFault("Scenes 2;", 1, 0);
        Check.dueFault(";", 1, 0);
        Check.dueFault("1;", 1, 0);
        Check.dueFault("line 0;", 1, 0);
        Check.dueFault("scenes ;", 1, 7);
        Check.dueFault("scenes two;", 1, 7);
        Check.dueFault("scenes 00001;", 1, 7);
        Check.dueFault("scenes 1a;", 1, 7);
        Check.dueFault("scenes -1;", 1, 7);
        // The ends of the small letters and of the digits, and the signs beside them.
        Check.dueFault("scenes 1z;", 1, 7);
        Check.dueFault("scenes 5z", 1, 7);
        Check.dueFault("scenes z1;", 1, 7);
        Check.dueFault("scenes 1`;", 1, 8);
        Check.dueFault("scenes 1{;", 1, 8);
        Check.dueFault("scenes 1/;", 1, 8);
        Check.dueFault("scenes 1:;", 1, 8);
        Check.dueFault("scenes 1A;", 1, 8);
        Check.dueFault("scenes 1;z", 1, 9);
        Check.dueFault("scenes\t1;", 1, 6);
        Check.dueFault("scenes\r1;", 1, 6);
        Check.dueFault("scenes 1\u0000;", 1, 8);
        Check.dueFault("scenes 1;\u00e9", 1, 9);
        Check.dueFault("scenes 1;;", 1, 9);
        Check.dueFault("scenes 1;scenes 1;", 1, 9);
        Check.dueFault("scenes 1;7", 1, 9);
        Check.dueFault("scenes 1;sets 1", 1, 9);
        Check.dueFault("scenes 1;line0;", 1, 9);
        Check.dueFault("scenes 1;line 0", 1, 15);
        Check.dueFault("scenes 1;line;", 1, 13);
        Check.dueFault("scenes 1;line 0 0;", 1, 16);
        Check.dueFault("scenes 1;group x;", 1, 15);
        Check.dueFault("scenes 1;line 0;set 1 0 1 1 1 1;", 1, 31);
        Check.dueFault("scenes 1;line 0;set 1 0 1 1 1 1 10 1;", 1, 35);
        Check.dueFault("scenes 1;line 0;set 1 0 1 1 1 1 10", 1, 34);
        Check.dueFault("scenes 1;line 0;set 1 0 12345 1 1 1 10;", 1, 24);
        Check.dueFault("scenes 1;line 0;set", 1, 19);
    }

    private static void numbersNotAsTold() {
        Check.dueFault("scenes 0;", 2, 7);
        Check.dueFault("scenes 5;", 2, 7);
        Check.dueFault("scenes 9999x;", 1, 7);
        Check.dueFault("scenes 5x", 1, 7);
        Check.dueFault("scenes 5", 2, 7);
        Check.dueFault("scenes 1;group 1;", 2, 15);
        Check.dueFault("scenes 1;line 0;line 1;", 2, 21);
        Check.dueFault("scenes 1;line 9999;", 2, 14);
        Check.dueFault("scenes 1;set 0 0 1 1 1 1 10;", 2, 13);
        Check.dueFault("scenes 1;set 1 0 1 1 1 1 10;line 0;", 2, 13);
        Check.dueFault("scenes 1;group 0;set 1 0 1 1 1 1 10;", 2, 21);
        Check.dueFault("scenes 2;line 0;set 1 2 1 1 1 1 10;", 2, 22);
        Check.dueFault("scenes 2;line 0;set 1 1 1 1 1 1 10;set 1 1 1 1 1 1 10;", 2, 41);
        Check.dueFault("scenes 1;line 0;set 1 0 1000 1 1 1 10;", 2, 24);
        Check.dueFault("scenes 1;line 0;set 1 0 1 1000 1 1 10;", 2, 26);
        Check.dueFault("scenes 1;line 0;set 1 0 1 1 1000 1 10;", 2, 28);
        Check.dueFault("scenes 1;line 0;set 1 0 1 1 1 0 10;", 2, 30);
        Check.dueFault("scenes 1;line 0;set 1 0 1 1 1 201 10;", 2, 30);
        Check.dueFault("scenes 1;line 0;set 1 0 1 1 1 1 9;", 2, 32);
        Check.dueFault("scenes 1;line 0;set 1 0 1 1 1 1 101;", 2, 32);
        Check.dueLines("scenes 2;line 0;line 0;set 1 1 1 1 1 1 10;set 1 0 1 1 1 1 10;set 2 1 1 1 1 1 10;", 6);
    }

    private static void tooManyNodes() {
        String fifteen = "scenes 1;" + "line 0;".repeat(14) + "group 0;";
        Check.dueLines(fifteen, 16);
        Check.dueLines(fifteen + "set 14 0 1 1 1 1 10;", 17);
        Check.dueFault(fifteen + "line 0;", 3, fifteen.length());
        Check.dueFault(fifteen + " group", 3, fifteen.length() + 1);
        Check.dueFault(fifteen + "line 99999;", 3, fifteen.length());
        Check.dueFault(fifteen + "lines 0;", 1, fifteen.length());
    }

    private static String padded(String head, int length, String tail) {
        return head + " ".repeat(length - head.length()) + tail;
    }

    private static void longTexts() {
        Check.dueLines(padded("scenes 1;", 600, ""), 1);
        Check.dueFault(padded("scenes 1;", 601, ""), 1, 600);
        Check.dueFault(padded("scenes 1;", 640, ""), 1, 600);
        Check.dueLines(padded("scenes 1;", 593, "line 0;"), 2);
        Check.dueFault(padded("scenes 1;", 594, "line 0;"), 1, 600);
        Check.dueFault(padded("scenes 1;", 600, "line 0;"), 1, 600);
        Check.dueFault(padded("scenes 1;", 598, "line 0;"), 1, 600);
        Check.dueFault(padded("scenes 1;", 598, "lime 0;"), 1, 598);
        Check.dueFault(padded("scenes 1;", 599, "$"), 1, 599);
        Check.dueFault(padded("scenes 1;", 600, "$"), 1, 600);
        Check.dueFault(padded("scenes 1;line", 598, "9999;"), 2, 598);
        Check.dueFault(padded("scenes 1;line", 598, "00000;"), 1, 598);
        Check.dueFault(padded("scenes 1;line", 600, "9999;"), 1, 600);
        Check.dueFault(padded("scenes 1", 600, ""), 1, 600);
        Check.dueFault(padded("scenes 1", 599, ""), 1, 599);
        Check.dueFault(padded("scenes 1", 620, ""), 1, 600);
        Check.dueFault(padded("scenes 5", 620, ""), 2, 7);
        String fifteen = "scenes 1;" + "line 0;".repeat(15);
        Check.dueFault(padded(fifteen, 599, "line 0;"), 3, 599);
        Check.dueFault(padded(fifteen, 600, "line 0;"), 1, 600);
        Check.dueFault("s".repeat(640), 1, 0);
        Check.dueFault("1".repeat(640), 1, 0);
        Check.dueFault(";".repeat(640), 1, 0);
    }

    private static void faultLeavesAll() {
        VarianceBridge x = Check.made("scenes 2;group 0;line 1;set 2 1 12 34 56 78 90;");
        x.set(2, 0, 0, 5);
        Check.due("text with a fault", Check.readText(x, "scenes 3;line 0;set 1 0 1 1 1 1 1;"), -33);
        Check.due("fault", x.fault(), 2);
        Check.due("scenes", x.now(0), 2);
        Check.due("nodes", x.now(1), 3);
        Check.due("undoable", x.now(3), 1);
        Check.due("tape", x.now(4), 0);
        Check.due("factor", x.factor(2, 1, 0), 12);
        Check.due("set factor", x.factor(2, 0, 0), 5);
        Check.due("undo", x.undo(), 0);
        Check.due("factor undone", x.factor(2, 0, 0), 0);
        Check.due("fault still", x.fault(), 2);
        x.set(2, 0, 0, 5);
        Check.due("sound text", Check.readText(x, "scenes 3;"), 1);
        Check.due("fault", x.fault(), 0);
        Check.due("undoable", x.now(3), 0);
        Check.due("undo", x.undo(), -1);
    }

    private static void now() {
        VarianceBridge x = Check.made("scenes 3;group 0;line 1;line 0;group 1;");
        Check.due("scenes", x.now(0), 3);
        Check.due("nodes", x.now(1), 5);
        Check.due("leaves", x.now(2), 2);
        Check.due("undoable", x.now(3), 0);
        x.grow(4);
        x.feed(1, 2, 3, 4, 5);
        Check.due("nodes", x.now(1), 6);
        Check.due("leaves", x.now(2), 3);
        Check.due("undoable", x.now(3), 1);
        Check.due("tape", x.now(4), 20);
        Check.due("now(5)", x.now(5), -1);
        Check.due("now(-1)", x.now(-1), -1);
        Check.due("now(max)", x.now(Integer.MAX_VALUE), -1);
        Check.due("now(min)", x.now(Integer.MIN_VALUE), -1);
    }
}
