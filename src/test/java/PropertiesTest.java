/** Promises 18 to 21: cell, color, tile, count. */
public final class PropertiesTest {
    private static final Check CHECK = new Check();

    public static void main(String[] args) {
        cellAnswers();
        cellCountsPossiblePlacings();
        cellRefuses();
        colorOfAllPlacings();
        colorRefuses();
        tileAnswers();
        tileLooksLike();
        tileRefuses();
        countAnswers();
        countPairs();
        countMisfits();
        countRefuses();
        CHECK.end();
    }

    private static void cellAnswers() {
        TwoFacedTiles x = new TwoFacedTiles();
        x.addTile(1234, 5678);
        CHECK.same("empty", x.cell(1, 0), -1);
        CHECK.same("not fixed", x.cell(1, 1), 0);
        CHECK.same("possible", x.cell(1, 2), 8);
        CHECK.same("first possible", x.cell(1, 3), 0);
        x.lay(1, 7);
        CHECK.same("laid", x.cell(1, 0), 7);
        CHECK.same("not fixed yet", x.cell(1, 1), 0);
        CHECK.same("none possible, not empty", x.cell(1, 2), 0);
        CHECK.same("no first, not empty", x.cell(1, 3), -1);
        CHECK.same("none possible, no tile", x.cell(3, 2), 0);
        CHECK.same("no first, no tile", x.cell(3, 3), -1);
        x.fix(1);
        CHECK.same("fixed", x.cell(1, 1), 1);
        CHECK.same("another is not", x.cell(2, 1), 0);
    }

    private static void cellCountsPossiblePlacings() {
        TwoFacedTiles x = new TwoFacedTiles();
        x.begin(1, 3);
        x.addTile(7777, 7777);
        x.addTile(1721, 1271);
        x.addTile(7111, 1111);
        x.lay(0, 0);
        // Tile 1: 7 above and below at the left with face 0 up after turn 2, and with face 1 up
        // after turn 1; tile 2 has no 7 behind.
        CHECK.same("possible at the neighbor", x.cell(1, 2), 0);
        x.dropTile();
        x.dropTile();
        x.addTile(1721, 1271 - 1000 + 7000);
        CHECK.same("7 behind at the top only", x.cell(1, 2), 0);
        x.dropTile();
        x.addTile(1721, 1117);
        // Face 0: 7 right; face 1: 7 left, that is right seen from above.
        CHECK.same("7 on both sides of the right edge", x.cell(1, 2), 2);
        CHECK.same("the first of these", x.cell(1, 3), 10);
        CHECK.same("in the other cell all", x.cell(2, 2), 8);
        CHECK.same("the first there", x.cell(2, 3), 8);
        x.setRule(1);
        CHECK.same("the rim forbids", x.cell(1, 2), 0);
        CHECK.same("no first at the rim", x.cell(1, 3), -1);
    }

    private static void cellRefuses() {
        TwoFacedTiles x = new TwoFacedTiles();
        for (int cell : new int[] {-1, 4, 12, Integer.MIN_VALUE, Integer.MAX_VALUE}) {
            CHECK.refusesIndex("no such cell", x, () -> x.cell(cell, 0));
            CHECK.refusesIndex("no such cell, wrong what", x, () -> x.cell(cell, 4));
            CHECK.refusesIndex("no such cell, wrong what", x, () -> x.cell(cell, -1));
        }
        for (int what : new int[] {-1, 4, Integer.MIN_VALUE, Integer.MAX_VALUE}) {
            CHECK.refusesArgument("wrong what", x, () -> x.cell(0, what));
        }
    }

    private static void colorOfAllPlacings() {
        TwoFacedTiles x = new TwoFacedTiles();
        x.begin(1, 1);
        x.addTile(1234, 5678);
        for (int side = 0; side < 4; side++) {
            CHECK.same("empty, above", x.color(0, side, false), -1);
            CHECK.same("empty, below", x.color(0, side, true), -1);
        }
        int[] above = {1234, 4123, 3412, 2341, 5678, 8567, 7856, 6785};
        int[] below = {5876, 6587, 7658, 8765, 1432, 2143, 3214, 4321};
        for (int placing = 0; placing < 8; placing++) {
            x.lay(0, placing);
            int seenAbove = 0;
            int seenBelow = 0;
            for (int side = 0; side < 4; side++) {
                seenAbove = 10 * seenAbove + x.color(0, side, false);
                seenBelow = 10 * seenBelow + x.color(0, side, true);
            }
            CHECK.same("above with placing " + placing, seenAbove, above[placing]);
            CHECK.same("below with placing " + placing, seenBelow, below[placing]);
            x.take(0);
        }
    }

    private static void colorRefuses() {
        TwoFacedTiles x = new TwoFacedTiles();
        for (int wrong : new int[] {-1, 4, Integer.MIN_VALUE, Integer.MAX_VALUE}) {
            CHECK.refusesIndex("no such cell", x, () -> x.color(wrong, 0, false));
            CHECK.refusesIndex("no such side", x, () -> x.color(0, wrong, true));
            CHECK.refusesIndex("neither", x, () -> x.color(wrong, wrong, true));
        }
    }

    private static void tileAnswers() {
        TwoFacedTiles x = new TwoFacedTiles();
        x.addTile(12, 3400);
        x.addTile(9876, 5);
        x.lay(2, 13);
        CHECK.same("face 0", x.tile(0, 0), 12);
        CHECK.same("face 1", x.tile(0, 1), 3400);
        CHECK.same("not laid", x.tile(0, 2), -1);
        CHECK.same("itself", x.tile(0, 3), 0);
        CHECK.same("face 0 of a laid one", x.tile(1, 0), 9876);
        CHECK.same("face 1 of a laid one", x.tile(1, 1), 5);
        CHECK.same("where it lies", x.tile(1, 2), 2);
        CHECK.same("itself, too", x.tile(1, 3), 1);
    }

    private static void tileLooksLike() {
        TwoFacedTiles x = new TwoFacedTiles();
        x.addTile(1234, 5678);
        int[][] alike = {{4123, 6785}, {3412, 7856}, {2341, 8567},
            {5678, 1234}, {8567, 2341}, {7856, 3412}, {6785, 4123}, {1234, 5678}};
        for (int[] faces : alike) {
            x.addTile(faces[0], faces[1]);
            CHECK.same("alike " + faces[0], x.tile(1, 3), 0);
            x.undo();
        }
        int[][] others = {{4123, 8567}, {4321, 8765}, {1234, 5876}, {1234, 6785}, {5678, 4321}};
        for (int[] faces : others) {
            x.addTile(faces[0], faces[1]);
            CHECK.same("another " + faces[0], x.tile(1, 3), 1);
            x.addTile(faces[1], faces[0]);
            CHECK.same("the lowest one like it", x.tile(2, 3), 1);
            x.undo();
            x.undo();
        }
    }

    private static void tileRefuses() {
        TwoFacedTiles x = new TwoFacedTiles();
        CHECK.refusesIndex("no tile at all", x, () -> x.tile(0, 0));
        x.addTile(0, 0);
        for (int tile : new int[] {-1, 1, 12, Integer.MIN_VALUE, Integer.MAX_VALUE}) {
            CHECK.refusesIndex("no such tile", x, () -> x.tile(tile, 0));
            CHECK.refusesIndex("no such tile, wrong what", x, () -> x.tile(tile, 4));
        }
        for (int what : new int[] {-1, 4, Integer.MIN_VALUE, Integer.MAX_VALUE}) {
            CHECK.refusesArgument("wrong what", x, () -> x.tile(0, what));
        }
    }

    private static void countAnswers() {
        TwoFacedTiles x = new TwoFacedTiles();
        x.begin(3, 4);
        x.addTile(1, 2);
        x.addTile(1, 2);
        x.addTile(1, 2);
        x.lay(0, 0);
        x.lay(11, 8);
        x.fix(11);
        x.setRule(2);
        int[] due = {3, 4, 3, 10, 1, 2, 0, 0};
        for (int what = 0; what < due.length; what++) {
            CHECK.same("count(" + what + ")", x.count(what), due[what]);
        }
        CHECK.same("count(9)", x.count(9), 8);
    }

    private static void countPairs() {
        TwoFacedTiles x = new TwoFacedTiles();
        for (int i = 0; i < 4; i++) {
            x.addTile(0, 1111);
        }
        x.lay(0, 0);
        CHECK.same("no pair above", x.count(6), 0);
        CHECK.same("no pair below", x.count(7), 0);
        x.lay(3, 8);
        CHECK.same("a corner is no pair", x.count(6), 0);
        x.lay(1, 16);
        CHECK.same("0 counts, too", x.count(6), 2);
        CHECK.same("below", x.count(7), 2);

        x.lay(2, 24);
        CHECK.same("four pairs above", x.count(6), 4);
        CHECK.same("four pairs below", x.count(7), 4);
        x.take(0);
        CHECK.same("without the first one above", x.count(6), 2);
        CHECK.same("without the first one below", x.count(7), 2);
        x.begin(3, 4);
        x.cut(918273645, 9);
        x.solve();
        CHECK.same("all pairs above", x.count(6), 17);
        CHECK.same("all pairs below", x.count(7), 17);
    }

    private static void countMisfits() {
        TwoFacedTiles x = new TwoFacedTiles();
        x.begin(1, 3);
        x.addTile(300, 4);
        x.addTile(3, 400);
        x.addTile(0, 0);
        x.lay(0, 0);
        x.lay(1, 8);
        CHECK.same("all fit", x.count(8), 0);
        x.setRule(2);
        CHECK.same("all fit with the rule", x.count(8), 0);
        x.setRule(0);
        x.lay(2, 16);
        CHECK.same("0 fits without the rule", x.count(8), 0);
        x.setRule(1);
        CHECK.same("0 at a shared side: both", x.count(8), 2);
        x.take(2);
        x.take(0);
        x.take(1);
        x.setRule(0);
        x.lay(1, 1);
        CHECK.same("3 at the rim without the rule", x.count(8), 0);
        x.setRule(1);
        CHECK.same("3 at the rim", x.count(8), 1);
    }

    private static void countRefuses() {
        TwoFacedTiles x = new TwoFacedTiles();
        for (int what : new int[] {-1, 10, Integer.MIN_VALUE, Integer.MAX_VALUE}) {
            CHECK.refusesArgument("wrong what", x, () -> x.count(what));
        }
    }
}
