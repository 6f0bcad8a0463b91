/** Promises 13 to 17: append, clearBuffer, firstError, load, undo. */
public final class TextTest {
    private static final Check CHECK = new Check();

    public static void main(String[] args) {
        append();
        clearBuffer();
        firstErrorAtEachPlace();
        firstErrorOfLongTexts();
        load();
        loadRefusesTexts();
        loadRefusesTooManyTiles();
        undo();
        undoKeepsEight();
        undoOfEachMethod();
        nothingElseIsSaved();
        CHECK.end();
    }

    private static int errorOf(String text) {
        TwoFacedTiles x = new TwoFacedTiles();
        Puzzles.write(x, text);
        return x.firstError();
    }

    private static void append() {
        TwoFacedTiles x = new TwoFacedTiles();
        int[] wrong = {32, 127, 0, -1, 33 + 65536, Integer.MIN_VALUE, Integer.MAX_VALUE};
        for (int code : wrong) {
            CHECK.refusesArgument("append of " + code, x, () -> x.append(code));
        }
        CHECK.same("append of the least", x.append(33), 1);
        CHECK.same("append of the highest", x.append(126), 2);
        for (int i = 3; i <= 60; i++) {
            CHECK.same("append", x.append('0'), i);
        }
        CHECK.refusesState("append of one more", x, () -> x.append('0'));
        for (int code : wrong) {
            CHECK.refusesArgument("append of one more, " + code, x, () -> x.append(code));
        }
        CHECK.same("nothing is saved", x.count(9), 0);
        CHECK.same("the length", x.clearBuffer(), 60);
    }

    private static void clearBuffer() {
        TwoFacedTiles x = new TwoFacedTiles();
        CHECK.same("clearBuffer of nothing", x.clearBuffer(), 0);
        Puzzles.write(x, "ab;");
        CHECK.same("clearBuffer", x.clearBuffer(), 3);
        CHECK.same("clearBuffer again", x.clearBuffer(), 0);
        CHECK.same("append from the start", x.append('1'), 1);
        CHECK.same("nothing is saved", x.count(9), 0);
    }

    private static void firstErrorAtEachPlace() {
        String right = "1234/5678;0000/9999;5";
        CHECK.same("empty buffer", errorOf(""), 0);
        for (int length = 1; length <= right.length(); length++) {
            CHECK.same("the beginning of a text", errorOf(right.substring(0, length)), length);
        }
        for (int i = 0; i < right.length(); i++) {
            for (char other : "0/;:.x!~".toCharArray()) {
                boolean digits = right.charAt(i) >= '0' && right.charAt(i) <= '9' && other == '0';
                if (other != right.charAt(i) && !digits) {
                    String text = right.substring(0, i) + other + right.substring(i + 1);
                    CHECK.same("firstError of " + text, errorOf(text), i);
                }
            }
        }
        CHECK.same("the first of two errors", errorOf("12/4/5678;;"), 2);
        CHECK.same("digits 0 and 9 are right", errorOf("0909/9090"), 9);
    }

    private static void firstErrorOfLongTexts() {
        String six = "1234/5678;".repeat(6);
        CHECK.same("a longer text would begin so", errorOf(six), 60);
        CHECK.same("wrong at the end", errorOf(six.substring(0, 59) + "5"), 59);
        TwoFacedTiles x = new TwoFacedTiles();
        for (int i = 0; i < 12; i++) {
            x.addTile(1, 1);
        }
        Puzzles.write(x, "1234/5678");
        CHECK.same("too many tiles are no syntax error", x.firstError(), 9);
        CHECK.same("the buffer stays", x.clearBuffer(), 9);
    }

    private static void load() {
        TwoFacedTiles x = new TwoFacedTiles();
        x.addTile(1, 2);
        Puzzles.write(x, "1234/5678;0007/0800");
        CHECK.same("load", x.load(), 3);
        CHECK.same("first told, face 0", x.tile(1, 0), 1234);
        CHECK.same("first told, face 1", x.tile(1, 1), 5678);
        CHECK.same("second told, face 0", x.tile(2, 0), 7);
        CHECK.same("second told, face 1", x.tile(2, 1), 800);
        CHECK.same("not laid", x.tile(2, 2), -1);
        CHECK.same("the buffer is cleared", x.clearBuffer(), 0);
        CHECK.same("one state is saved", x.count(9), 2);
        CHECK.same("undo load", x.undo(), 1);
        CHECK.same("tiles then", x.count(2), 1);
        CHECK.same("the buffer stays cleared", x.clearBuffer(), 0);
        Puzzles.write(x, "0000/0001;0000/0002;0000/0003;0000/0004;0000/0005;0000/0006");
        CHECK.same("load of six", x.load(), 7);
        for (int i = 1; i <= 6; i++) {
            CHECK.same("of six, face 0", x.tile(i, 0), 0);
            CHECK.same("of six, face 1", x.tile(i, 1), i);
        }
    }

    private static void loadRefusesTexts() {
        String right = "1234/5678;0000/9999";
        for (int length = 0; length < right.length(); length++) {
            TwoFacedTiles x = new TwoFacedTiles();
            Puzzles.write(x, right.substring(0, length));
            if (length != 9) {
                CHECK.refusesArgument("load of a part", x, () -> x.load());
                CHECK.same("the buffer stays", x.clearBuffer(), length);
            }
        }
        for (String text : new String[] {"1234/567a", "1234/5678;", "12345678;", "1234;5678",
            "1234/5678/1234/5678", "1234/5678;1234/567;", "x234/5678", "1234/5678;0000/999:"}) {
            TwoFacedTiles x = new TwoFacedTiles();
            Puzzles.write(x, text);
            CHECK.refusesArgument("load of " + text, x, () -> x.load());
            CHECK.same("the buffer stays", x.clearBuffer(), text.length());
        }
        TwoFacedTiles x = new TwoFacedTiles();
        Puzzles.write(x, "1234/5678;".repeat(6));
        CHECK.refusesArgument("load of 60 characters", x, () -> x.load());
    }

    private static void loadRefusesTooManyTiles() {
        TwoFacedTiles x = new TwoFacedTiles();
        for (int i = 0; i < 11; i++) {
            x.addTile(1, 1);
        }
        Puzzles.write(x, "1234/5678;1234/5678");
        CHECK.refusesState("load of a 13th", x, () -> x.load());
        CHECK.same("the buffer stays", x.clearBuffer(), 19);
        Puzzles.write(x, "1234/5678;1234/56789");
        CHECK.refusesArgument("load of a wrong text and a 13th", x, () -> x.load());
        x.clearBuffer();
        Puzzles.write(x, "1234/5678");
        CHECK.same("load of the 12th", x.load(), 12);
        Puzzles.write(x, "1234/5678");
        CHECK.refusesState("load after 12", x, () -> x.load());
        x.clearBuffer();
        CHECK.refusesArgument("load of nothing after 12", x, () -> x.load());
    }

    private static void undo() {
        TwoFacedTiles x = new TwoFacedTiles();
        CHECK.refusesState("undo of nothing", x, () -> x.undo());
        x.begin(1, 2);
        x.addTile(11, 22);
        x.append('7');
        CHECK.same("undo addTile", x.undo(), 1);
        CHECK.same("tiles", x.count(2), 0);
        CHECK.same("undo begin", x.undo(), 0);
        CHECK.same("rows again", x.count(0), 2);
        CHECK.same("columns again", x.count(1), 2);
        CHECK.same("the buffer is not restored", x.firstError(), 1);
        CHECK.refusesState("undo of nothing more", x, () -> x.undo());
    }

    private static void undoKeepsEight() {
        TwoFacedTiles x = new TwoFacedTiles();
        for (int i = 0; i < 12; i++) {
            x.addTile(i, 100 * i);
            CHECK.same("saved states", x.count(9), i < 8 ? i + 1 : 8);
        }
        for (int left = 7; left >= 4; left--) {
            CHECK.same("undo", x.undo(), left);
            CHECK.same("tiles left", x.count(2), left + 4);
        }
        x.addTile(77, 78);
        CHECK.same("saved after undo", x.count(9), 5);
        for (int left = 4; left >= 0; left--) {
            CHECK.same("undo again", x.undo(), left);
            CHECK.same("tiles left again", x.count(2), left + 4);
            CHECK.same("the last tile", x.tile(left + 3, 1), 100 * (left + 3));
        }
        CHECK.refusesState("the oldest ones are dropped", x, () -> x.undo());
        CHECK.same("four tiles stay", x.count(2), 4);
    }

    private static void undoable(String name, TwoFacedTiles x, Check.Call call) {
        int saved = x.count(9);
        long before = x.digest();
        call.run();
        CHECK.same(name + " saves a state", x.count(9), saved + 1);
        CHECK.same(name + " undone", x.undo(), saved);
        CHECK.same(name + " restored", x.digest(), before);
    }

    private static void undoOfEachMethod() {
        TwoFacedTiles x = new TwoFacedTiles();
        x.begin(2, 2);
        x.cut(12345, 3);
        x.lay(0, 0);
        x.fix(0);
        x.lay(3, 24);
        undoable("begin", x, () -> x.begin(3, 1));
        undoable("addTile", x, () -> x.addTile(1, 2));
        undoable("dropTile", x, () -> {
            x.take(3);
            x.dropTile();
            x.undo();
            x.undo();
            x.fix(3);
        });
        undoable("setRule", x, () -> x.setRule(2));
        undoable("setRule, the same", x, () -> x.setRule(0));
        undoable("cut", x, () -> x.cut(999, 9));
        undoable("lay", x, () -> x.lay(1, 8));
        undoable("take", x, () -> x.take(3));
        undoable("fix", x, () -> x.fix(3));
        undoable("clear", x, () -> x.clear());
        undoable("turnOver", x, () -> x.turnOver());
        undoable("solve", x, () -> x.solve());
        x.take(3);
        undoable("dropTile", x, () -> x.dropTile());
        Puzzles.write(x, "1111/2222");
        x.load();
        CHECK.same("load saves a state", x.count(9), 7);
        CHECK.same("load undone", x.undo(), 6);
        CHECK.same("tiles then", x.count(2), 4);
    }

    private static void nothingElseIsSaved() {
        TwoFacedTiles x = new TwoFacedTiles();
        x.begin(1, 2);
        x.cut(5, 5);
        x.append('a');
        x.clearBuffer();
        x.firstError();
        x.cell(0, 3);
        x.color(0, 0, true);
        x.tile(0, 3);
        x.count(8);
        x.layings(50, 0);
        x.hint();
        x.starts();
        x.why(0, 0);
        x.fitting();
        x.digest();
        CHECK.same("two states are saved", x.count(9), 2);
        x.undo();
        CHECK.same("one state is left", x.count(9), 1);
    }
}
