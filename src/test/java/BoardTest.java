/** Promises 1 to 6: a new object, begin, addTile, dropTile, setRule, cut. */
public final class BoardTest {
    private static final Check CHECK = new Check();

    public static void main(String[] args) {
        newObject();
        beginAnswers();
        beginEmptiesTheBoard();
        beginRefuses();
        addTile();
        addTileRefuses();
        dropTile();
        dropTileRefuses();
        setRule();
        cutOneRow();
        cutOneColumn();
        cutSquare();
        cutDrawsDigitsAgain();
        cutReplacesEverything();
        cutRefuses();
        CHECK.end();
    }

    private static void counts(String when, TwoFacedTiles x, int... due) {
        for (int what = 0; what < due.length; what++) {
            CHECK.same(when + ": count(" + what + ")", x.count(what), due[what]);
        }
    }

    private static void newObject() {
        TwoFacedTiles x = new TwoFacedTiles();
        CHECK.same("NONE", TwoFacedTiles.NONE, -1);
        counts("new", x, 2, 2, 0, 4, 0, 0, 0, 0, 0, 0);
        CHECK.same("new: firstError", x.firstError(), 0);
        for (int cell = 0; cell < 4; cell++) {
            CHECK.same("new: cell", x.cell(cell, 0), -1);
            CHECK.same("new: fixed", x.cell(cell, 1), 0);
        }
        CHECK.refusesIndex("new: cell 4", x, () -> x.cell(4, 0));
        CHECK.refusesIndex("new: tile 0", x, () -> x.tile(0, 0));
        CHECK.same("new: clearBuffer", x.clearBuffer(), 0);
    }

    private static void beginAnswers() {
        TwoFacedTiles x = new TwoFacedTiles();
        for (int rows = 1; rows <= 3; rows++) {
            for (int columns = 1; columns <= 4; columns++) {
                CHECK.same("begin", x.begin(rows, columns), rows * columns);
                CHECK.same("rows", x.count(0), rows);
                CHECK.same("columns", x.count(1), columns);
                CHECK.same("empty cells", x.count(3), rows * columns);
                int beyond = rows * columns;
                CHECK.refusesIndex("cell beyond", x, () -> x.cell(beyond, 0));
            }
        }
    }

    private static void beginEmptiesTheBoard() {
        TwoFacedTiles x = new TwoFacedTiles();
        x.addTile(1234, 5678);
        x.addTile(0, 9);
        x.setRule(0);
        x.lay(3, 2);
        x.fix(3);
        x.setRule(1);
        CHECK.same("begin with a tile laid", x.begin(2, 2), 4);
        counts("begin again", x, 2, 2, 2, 4, 0, 1, 0, 0, 0, 7);
        CHECK.same("tile stays", x.tile(0, 0), 1234);
        CHECK.same("tile stays behind", x.tile(0, 1), 5678);
        CHECK.same("second tile stays", x.tile(1, 1), 9);
        CHECK.same("not laid", x.tile(0, 2), -1);
        CHECK.same("undo begin", x.undo(), 6);
        counts("begin undone", x, 2, 2, 2, 3, 1, 1);
        CHECK.same("laid again", x.cell(3, 0), 2);
        CHECK.same("where again", x.tile(0, 2), 3);
        CHECK.same("fixed again", x.cell(3, 1), 1);
    }

    private static void beginRefuses() {
        TwoFacedTiles x = new TwoFacedTiles();
        int[][] wrong = {{0, 1}, {4, 1}, {1, 0}, {1, 5}, {-1, -1}, {4, 4}, {3, 5},
            {Integer.MIN_VALUE, 2}, {2, Integer.MAX_VALUE}, {65536, 65536}};
        for (int[] size : wrong) {
            CHECK.refusesArgument("begin of a wrong size", x, () -> x.begin(size[0], size[1]));
        }
        CHECK.same("no state was saved", x.count(9), 0);
    }

    private static void addTile() {
        TwoFacedTiles x = new TwoFacedTiles();
        int[][] faces = {{0, 9999}, {9999, 0}, {7, 70}, {700, 7000}, {1234, 5678}};
        for (int i = 0; i < faces.length; i++) {
            CHECK.same("addTile", x.addTile(faces[i][0], faces[i][1]), i);
            CHECK.same("tiles", x.count(2), i + 1);
            CHECK.same("saved", x.count(9), i + 1);
        }
        for (int i = 0; i < faces.length; i++) {
            CHECK.same("face 0", x.tile(i, 0), faces[i][0]);
            CHECK.same("face 1", x.tile(i, 1), faces[i][1]);
            CHECK.same("not laid", x.tile(i, 2), -1);
        }
        x.begin(1, 1);
        x.lay(0, 16);
        int[] above = {0, 0, 0, 7};
        int[] below = {0, 0, 7, 0};
        for (int side = 0; side < 4; side++) {
            CHECK.same("7 above", x.color(0, side, false), above[side]);
            CHECK.same("70 below", x.color(0, side, true), below[side]);
        }
        x.undo();
        x.undo();
        CHECK.same("undo addTile", x.undo(), 4);
        CHECK.same("tiles then", x.count(2), 4);
        CHECK.refusesIndex("the tile is gone", x, () -> x.tile(4, 0));
        CHECK.same("addTile again", x.addTile(1, 2), 4);
        CHECK.same("another face", x.tile(4, 0), 1);
    }

    private static void addTileRefuses() {
        TwoFacedTiles x = new TwoFacedTiles();
        int[][] wrong = {{-1, 0}, {10000, 0}, {0, -1}, {0, 10000}, {-1, -1},
            {Integer.MIN_VALUE, 0}, {0, Integer.MAX_VALUE}};
        for (int[] faces : wrong) {
            CHECK.refusesArgument("addTile, wrong face", x, () -> x.addTile(faces[0], faces[1]));
        }
        for (int i = 0; i < 12; i++) {
            CHECK.same("addTile of 12", x.addTile(i, 11 - i), i);
        }
        CHECK.refusesState("addTile, 13th", x, () -> x.addTile(0, 0));
        for (int[] faces : wrong) {
            CHECK.refusesArgument("addTile, wrong 13th", x, () -> x.addTile(faces[0], faces[1]));
        }
    }

    private static void dropTile() {
        TwoFacedTiles x = new TwoFacedTiles();
        x.addTile(1, 2);
        x.addTile(3, 4);
        x.lay(0, 0);
        CHECK.same("dropTile", x.dropTile(), 1);
        CHECK.refusesIndex("tile 1 is gone", x, () -> x.tile(1, 0));
        CHECK.same("tile 0 stays", x.tile(0, 2), 0);
        CHECK.same("undo dropTile", x.undo(), 3);
        CHECK.same("tile 1 is back", x.tile(1, 0), 3);
        CHECK.same("and its other face", x.tile(1, 1), 4);
        x.take(0);
        x.dropTile();
        CHECK.same("the last one dropped", x.dropTile(), 0);
    }

    private static void dropTileRefuses() {
        TwoFacedTiles x = new TwoFacedTiles();
        CHECK.refusesState("dropTile of none", x, () -> x.dropTile());
        x.addTile(1, 2);
        x.addTile(3, 4);
        x.lay(3, 12);
        CHECK.refusesState("dropTile of a laid one", x, () -> x.dropTile());
        x.take(3);
        CHECK.same("dropTile after take", x.dropTile(), 1);
    }

    private static void setRule() {
        TwoFacedTiles x = new TwoFacedTiles();
        CHECK.same("setRule 2", x.setRule(2), 0);
        CHECK.same("setRule 1", x.setRule(1), 2);
        CHECK.same("setRule 1 again", x.setRule(1), 1);
        CHECK.same("saved, also without a change", x.count(9), 3);
        CHECK.same("setRule 0", x.setRule(0), 1);
        x.addTile(1111, 1111);
        x.lay(0, 0);
        CHECK.same("setRule 2 over a tile", x.setRule(2), 0);
        CHECK.same("which stays", x.cell(0, 0), 0);
        CHECK.same("and does not fit any more", x.count(8), 1);
        CHECK.same("undo setRule", x.undo(), 6);
        CHECK.same("rule again", x.count(5), 0);
        for (int rule : new int[] {-1, 3, Integer.MIN_VALUE, Integer.MAX_VALUE}) {
            CHECK.refusesArgument("setRule out of range", x, () -> x.setRule(rule));
        }
    }

    private static void tile(TwoFacedTiles x, int tile, int face, int other) {
        CHECK.same("cut: face 0 of " + tile, x.tile(tile, 0), face);
        CHECK.same("cut: face 1 of " + tile, x.tile(tile, 1), other);
        CHECK.same("cut: not laid, " + tile, x.tile(tile, 2), -1);
    }

    private static void cutOneRow() {
        TwoFacedTiles x = new TwoFacedTiles();
        x.begin(1, 2);
        CHECK.same("cut of a row", x.cut(12, 9), 2);
        tile(x, 0, 300, 2);
        tile(x, 1, 3, 200);
    }

    private static void cutOneColumn() {
        TwoFacedTiles x = new TwoFacedTiles();
        x.begin(2, 1);
        CHECK.same("cut of a column", x.cut(12, 9), 2);
        tile(x, 0, 30, 20);
        tile(x, 1, 3000, 2000);
        x.begin(1, 1);
        CHECK.same("cut of one cell", x.cut(999999999, 9), 1);
        tile(x, 0, 0, 0);
    }

    private static void cutSquare() {
        TwoFacedTiles x = new TwoFacedTiles();
        CHECK.same("cut of a square", x.cut(120, 9), 4);
        tile(x, 0, 120, 13);
        tile(x, 1, 31, 320);
        tile(x, 2, 2100, 1003);
        tile(x, 3, 3001, 2300);
        x.cut(120, 1);
        tile(x, 0, 110, 11);
        tile(x, 3, 1001, 1100);
        x.cut(120, 2);
        // The drawn digits are 0 2 1 0 2 1 0 2, so the colors are 1 1 2 1 1 2 1 1.
        tile(x, 0, 120, 11);
        tile(x, 1, 11, 120);
        tile(x, 2, 2100, 1001);
        tile(x, 3, 1001, 2100);
    }

    private static void cutDrawsDigitsAgain() {
        TwoFacedTiles x = new TwoFacedTiles();
        x.begin(1, 4);
        // Last digit first: 9 0 7, and again 9 0 7; the colors are 1 1 8, 1 1 8 of 9.
        CHECK.same("cut with few digits", x.cut(709, 9), 4);
        tile(x, 0, 100, 1);
        tile(x, 1, 801, 101);
        tile(x, 2, 108, 108);
        tile(x, 3, 1, 800);
    }

    private static void cutReplacesEverything() {
        TwoFacedTiles x = new TwoFacedTiles();
        for (int i = 0; i < 6; i++) {
            x.addTile(1111, 2222);
        }
        x.lay(1, 40);
        x.fix(1);
        x.setRule(2);
        x.append('5');
        CHECK.same("cut", x.cut(1, 1), 4);
        counts("cut", x, 2, 2, 4, 4, 0, 2, 0, 0, 0, 8);
        CHECK.same("nothing fixed", x.cell(1, 1), 0);
        CHECK.same("nothing laid", x.cell(1, 0), -1);
        CHECK.same("buffer stays", x.clearBuffer(), 1);
        x.undo();
        counts("cut undone", x, 2, 2, 6, 3, 1, 2, 0, 0, 1, 7);
        CHECK.same("old tile laid", x.cell(1, 0), 40);
        CHECK.same("old tile", x.tile(5, 0), 1111);
    }

    private static void cutRefuses() {
        TwoFacedTiles x = new TwoFacedTiles();
        int[][] wrong = {{0, 1}, {-1, 1}, {1000000000, 1}, {1, 0}, {1, 10}, {1, -1}, {0, 0},
            {Integer.MAX_VALUE, 1}, {Integer.MIN_VALUE, 1}, {1, Integer.MAX_VALUE}};
        for (int[] what : wrong) {
            CHECK.refusesArgument("cut out of range", x, () -> x.cut(what[0], what[1]));
        }
        CHECK.same("cut, least", x.cut(1, 1), 4);
        CHECK.same("cut, most", x.cut(999999999, 9), 4);
    }
}
