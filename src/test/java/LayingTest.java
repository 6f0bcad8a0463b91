/** Promises 7 to 12: lay, take, fix, clear, turnOver, solve. */
public final class LayingTest {
    private static final Check CHECK = new Check();

    public static void main(String[] args) {
        lay();
        layRefusesIndex();
        layRefusesWhatDoesNotFit();
        layAtRimWithRules();
        layAtSharedSidesWithRules();
        take();
        fix();
        clear();
        turnOverOneTile();
        turnOverRows();
        turnOverTwiceIsNothing();
        solve();
        solveGoesOnFromWhatLies();
        solveRefuses();
        CHECK.end();
    }

    private static void lay() {
        TwoFacedTiles x = new TwoFacedTiles();
        x.begin(1, 2);
        x.addTile(1234, 5678);
        x.addTile(9992, 9699);
        CHECK.same("lay", x.lay(0, 0), 1);
        CHECK.same("placing", x.cell(0, 0), 0);
        CHECK.same("where", x.tile(0, 2), 0);
        CHECK.same("count saved", x.count(9), 4);
        // Above at the right side of tile 0 is 2; below there it is 8, the left edge of face 1.
        CHECK.refusesState("colors differ below", x, () -> x.lay(1, 8));
        x.dropTile();
        x.addTile(9992, 9899);
        CHECK.same("lay the last", x.lay(1, 8), 0);
        CHECK.same("undo", x.undo(), 6);
        CHECK.same("empty again", x.cell(1, 0), -1);
        CHECK.same("not laid again", x.tile(1, 2), -1);
    }

    private static void layRefusesIndex() {
        TwoFacedTiles x = new TwoFacedTiles();
        CHECK.refusesIndex("no tiles", x, () -> x.lay(0, 0));
        x.addTile(0, 0);
        x.addTile(0, 0);
        for (int cell : new int[] {-1, 4, Integer.MIN_VALUE, Integer.MAX_VALUE}) {
            CHECK.refusesIndex("no such cell", x, () -> x.lay(cell, 0));
            CHECK.refusesIndex("no such cell, no such tile", x, () -> x.lay(cell, 16));
        }
        for (int placing : new int[] {-1, -8, 16, Integer.MIN_VALUE, Integer.MAX_VALUE}) {
            CHECK.refusesIndex("no such tile", x, () -> x.lay(0, placing));
        }
        CHECK.same("the last placing", x.lay(0, 15), 3);
        CHECK.refusesIndex("no such tile, cell not empty", x, () -> x.lay(0, 16));
        CHECK.refusesIndex("no such cell, tile laid", x, () -> x.lay(4, 15));
    }

    private static void layRefusesWhatDoesNotFit() {
        TwoFacedTiles x = new TwoFacedTiles();
        x.addTile(1111, 2222);
        x.addTile(1111, 2222);
        x.addTile(1111, 3333);
        x.addTile(3333, 2222);
        x.lay(0, 0);
        CHECK.refusesState("cell not empty", x, () -> x.lay(0, 8));
        CHECK.refusesState("tile laid", x, () -> x.lay(1, 1));
        CHECK.refusesState("other face up", x, () -> x.lay(1, 12));
        CHECK.refusesState("wrong below", x, () -> x.lay(1, 16));
        CHECK.refusesState("wrong above", x, () -> x.lay(2, 24));
        CHECK.same("only the corner touches", x.lay(3, 24), 2);
        CHECK.refusesState("between different ones", x, () -> x.lay(1, 8));
        x.take(3);
        CHECK.same("fits at right", x.lay(1, 11), 2);
        x.take(1);
        CHECK.same("fits at bottom", x.lay(2, 8), 2);
    }

    private static void layAtRimWithRules() {
        TwoFacedTiles x = new TwoFacedTiles();
        x.begin(1, 1);
        x.addTile(0, 1111);
        x.addTile(0, 0);
        x.setRule(1);
        CHECK.refusesState("1 above at the rim", x, () -> x.lay(0, 4));
        CHECK.same("0 above at the rim", x.lay(0, 3), 0);
        x.take(0);
        x.setRule(2);
        CHECK.refusesState("1 below at the rim", x, () -> x.lay(0, 0));
        CHECK.refusesState("1 above at the rim, rule 2", x, () -> x.lay(0, 4));
        CHECK.same("0 at the rim", x.lay(0, 15), 0);

        TwoFacedTiles y = new TwoFacedTiles();
        y.begin(3, 3);
        y.addTile(5, 0);
        y.setRule(2);
        // The 5 comes to the left, the top, the right and the bottom.
        boolean[][] fits = {
            {false, false, true, true}, {true, false, true, true}, {true, false, false, true},
            {false, true, true, true}, {true, true, true, true}, {true, true, false, true},
            {false, true, true, false}, {true, true, true, false}, {true, true, false, false}};
        for (int cell = 0; cell < 9; cell++) {
            for (int turn = 0; turn < 4; turn++) {
                int placing = turn;
                int at = cell;
                if (fits[cell][turn]) {
                    CHECK.same("fits at the rim", y.lay(at, placing), 8);
                    y.take(at);
                } else {
                    CHECK.refusesState("at the rim", y, () -> y.lay(at, placing));
                }
            }
        }
    }

    private static void layAtSharedSidesWithRules() {
        TwoFacedTiles x = new TwoFacedTiles();
        x.begin(1, 2);
        x.addTile(0, 1111);
        x.addTile(0, 1111);
        x.lay(0, 0);
        CHECK.same("0 shared, rule 0", x.lay(1, 8), 0);
        x.take(1);
        x.setRule(1);
        CHECK.refusesState("0 shared above, rule 1", x, () -> x.lay(1, 8));
        x.begin(1, 2);
        x.dropTile();
        x.dropTile();
        x.addTile(100, 0);
        x.addTile(1, 0);
        x.lay(0, 0);
        CHECK.same("0 shared below, rule 1", x.lay(1, 8), 0);
        x.take(1);
        x.setRule(2);
        CHECK.refusesState("0 shared below, rule 2", x, () -> x.lay(1, 8));
        x.dropTile();
        x.take(0);
        x.dropTile();
        x.addTile(100, 2);
        x.addTile(1, 200);
        x.lay(0, 0);
        CHECK.same("no 0 shared, rule 2", x.lay(1, 8), 0);
    }

    private static void take() {
        TwoFacedTiles x = new TwoFacedTiles();
        x.addTile(12, 34);
        CHECK.refusesState("take of an empty cell", x, () -> x.take(2));
        x.lay(2, 6);
        for (int cell : new int[] {-1, 4, Integer.MAX_VALUE, Integer.MIN_VALUE}) {
            CHECK.refusesIndex("take of no cell", x, () -> x.take(cell));
        }
        CHECK.same("take", x.take(2), 6);
        CHECK.same("empty then", x.cell(2, 0), -1);
        CHECK.same("not laid then", x.tile(0, 2), -1);
        CHECK.same("undo take", x.undo(), 2);
        CHECK.same("laid again", x.tile(0, 2), 2);
        x.fix(2);
        CHECK.refusesState("take of a fixed one", x, () -> x.take(2));
        x.fix(2);
        CHECK.same("take of a freed one", x.take(2), 6);
    }

    private static void fix() {
        TwoFacedTiles x = new TwoFacedTiles();
        x.addTile(0, 0);
        x.addTile(0, 0);
        CHECK.refusesState("fix of an empty cell", x, () -> x.fix(0));
        for (int cell : new int[] {-1, 4, 32, Integer.MAX_VALUE, Integer.MIN_VALUE}) {
            CHECK.refusesIndex("fix of no cell", x, () -> x.fix(cell));
        }
        x.lay(0, 0);
        x.lay(3, 8);
        CHECK.same("fix", x.fix(3), 1);
        CHECK.same("fixed", x.cell(3, 1), 1);
        CHECK.same("the other is not", x.cell(0, 1), 0);
        CHECK.same("how many", x.count(4), 1);
        CHECK.same("fix again frees", x.fix(3), 0);
        CHECK.same("freed", x.cell(3, 1), 0);
        CHECK.same("undo frees not", x.undo(), 5);
        CHECK.same("fixed once more", x.cell(3, 1), 1);
        CHECK.same("undo fixes not", x.undo(), 4);
        CHECK.same("freed once more", x.cell(3, 1), 0);
    }

    private static void clear() {
        TwoFacedTiles x = new TwoFacedTiles();
        CHECK.same("clear of nothing", x.clear(), 0);
        CHECK.same("is saved", x.count(9), 1);
        for (int i = 0; i < 3; i++) {
            x.addTile(0, 0);
            x.lay(i, 8 * i);
        }
        x.fix(1);
        CHECK.same("clear", x.clear(), 2);
        CHECK.same("fixed stays", x.cell(1, 0), 8);
        CHECK.same("stays fixed", x.cell(1, 1), 1);
        CHECK.same("others gone", x.cell(0, 0) + x.cell(2, 0), -2);
        CHECK.same("others not laid", x.tile(0, 2) + x.tile(2, 2), -2);
        CHECK.same("clear again", x.clear(), 0);
        x.undo();
        x.undo();
        CHECK.same("undo clear", x.count(3), 1);
        CHECK.same("laid again", x.tile(2, 2), 2);
        x.fix(1);
        CHECK.same("clear of all", x.clear(), 3);
    }

    private static void turnOverOneTile() {
        TwoFacedTiles x = new TwoFacedTiles();
        CHECK.same("turnOver of nothing", x.turnOver(), 0);
        CHECK.same("is saved", x.count(9), 1);
        x.begin(1, 1);
        x.addTile(1234, 5678);
        int[] due = {4, 7, 6, 5, 0, 3, 2, 1};
        for (int placing = 0; placing < 8; placing++) {
            x.lay(0, placing);
            CHECK.same("turnOver", x.turnOver(), 1);
            CHECK.same("turned over " + placing, x.cell(0, 0), due[placing]);
            x.take(0);
        }
        x.lay(0, 1);
        x.turnOver();
        // Turn 1 of 1234/5678 shows 6 5 8 7 below; from behind left and right are exchanged.
        int[] above = {6, 7, 8, 5};
        int[] below = {4, 3, 2, 1};
        for (int side = 0; side < 4; side++) {
            CHECK.same("seen above", x.color(0, side, false), above[side]);
            CHECK.same("seen below", x.color(0, side, true), below[side]);
        }
    }

    private static void turnOverRows() {
        TwoFacedTiles x = new TwoFacedTiles();
        x.begin(2, 3);
        for (int i = 0; i < 4; i++) {
            x.addTile(0, 0);
        }
        x.lay(0, 1);
        x.lay(1, 8);
        x.lay(5, 22);
        x.fix(0);
        x.fix(1);
        CHECK.same("turnOver", x.turnOver(), 3);
        int[] placings = {-1, 12, 7, 18, -1, -1};
        int[] fixed = {0, 1, 1, 0, 0, 0};
        for (int cell = 0; cell < 6; cell++) {
            CHECK.same("in cell " + cell, x.cell(cell, 0), placings[cell]);
            CHECK.same("fixed in cell " + cell, x.cell(cell, 1), fixed[cell]);
        }
        CHECK.same("where tile 0 lies", x.tile(0, 2), 2);
        CHECK.same("where tile 1 lies", x.tile(1, 2), 1);
        CHECK.same("where tile 2 lies", x.tile(2, 2), 3);
        CHECK.same("where tile 3 lies", x.tile(3, 2), -1);
        x.undo();
        CHECK.same("undone, tile 0", x.tile(0, 2), 0);
        CHECK.same("undone, placing", x.cell(5, 0), 22);
        CHECK.same("undone, fixed", x.cell(0, 1), 1);
    }

    private static void turnOverTwiceIsNothing() {
        TwoFacedTiles x = new TwoFacedTiles();
        x.begin(3, 4);
        x.cut(918273645, 7);
        x.solve();
        int alikeAbove = x.count(6);
        x.turnOver();
        CHECK.same("still fits", x.count(8), 0);
        CHECK.same("alike below now", x.count(7), alikeAbove);
        CHECK.same("tile 0 at the right", x.tile(0, 2), 3);
        x.turnOver();
        for (int cell = 0; cell < 12; cell++) {
            CHECK.same("back again", x.cell(cell, 0), 8 * cell);
        }
    }

    private static void solve() {
        TwoFacedTiles x = new TwoFacedTiles();
        x.begin(2, 3);
        x.cut(918273645, 9);
        x.setRule(2);
        CHECK.same("solve", x.solve(), 6);
        for (int cell = 0; cell < 6; cell++) {
            CHECK.same("solved cell " + cell, x.cell(cell, 0), 8 * cell);
        }
        CHECK.same("solve of a full board", x.solve(), 0);
        CHECK.same("saved, too", x.count(9), 5);
        x.undo();
        CHECK.same("undo solve", x.undo(), 3);
        CHECK.same("empty again", x.count(3), 6);
        CHECK.same("none laid again", x.tile(5, 2), -1);
    }

    private static void solveGoesOnFromWhatLies() {
        TwoFacedTiles x = new TwoFacedTiles();
        x.begin(1, 3);
        x.addTile(1111, 2222);
        x.addTile(2222, 1111);
        x.addTile(1111, 2222);
        x.addTile(3333, 3333);
        x.lay(1, 13);
        x.fix(1);
        x.append('1');
        CHECK.same("solve", x.solve(), 2);
        CHECK.same("first cell", x.cell(0, 0), 0);
        CHECK.same("what lay", x.cell(1, 0), 13);
        CHECK.same("what was fixed", x.cell(1, 1), 1);
        CHECK.same("last cell", x.cell(2, 0), 16);
        CHECK.same("where", x.tile(2, 2), 2);
        CHECK.same("not used", x.tile(3, 2), -1);
        CHECK.same("buffer", x.clearBuffer(), 1);

        TwoFacedTiles y = new TwoFacedTiles();
        y.begin(1, 3);
        y.addTile(9, 0);
        y.addTile(8, 0);
        y.addTile(0, 0);
        y.lay(0, 0);
        y.lay(2, 8);
        y.setRule(1);
        CHECK.refusesState("rule 1 forbids it", y, () -> y.solve());
        y.setRule(0);
        y.take(2);
        y.lay(2, 9);
        CHECK.same("whether these fit is not asked", y.solve(), 1);
    }

    private static void solveRefuses() {
        TwoFacedTiles x = new TwoFacedTiles();
        CHECK.refusesState("solve without tiles", x, () -> x.solve());
        x.begin(1, 2);
        x.addTile(1111, 1111);
        x.addTile(2222, 2222);
        CHECK.refusesState("solve without a fit", x, () -> x.solve());
        TwoFacedTiles y = new TwoFacedTiles();
        y.begin(3, 4);
        for (int i = 0; i < 11; i++) {
            y.addTile(1111, 1111);
        }
        y.addTile(2222, 2222);
        CHECK.refusesState("solve with too many steps", y, () -> y.solve());
    }
}
