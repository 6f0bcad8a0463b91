/**
 * A test for each case of each boundary that the document names for the promises 7 to 12; what
 * fits is asked in FittingEdgesTest, how a search goes in SearchEdgesTest.
 */
public final class LayingEdgesTest {
    private static final Check CHECK = new Check();

    public static void main(String[] args) {
        layCells();
        layPlacings();
        layIsNotPossible();
        layAnswers();
        layOfTwoExceptions();
        take();
        fix();
        clear();
        turnOverCells();
        turnOverPlacings();
        turnOverFixed();
        solveFinds();
        solveFindsNone();
        solveSteps();
        CHECK.end();
    }

    private static TwoFacedTiles twoTiles() {
        return Puzzles.alike(2, 2, 2, 1111, 1111);
    }

    /** Tile 0 lies in cell 3. */
    private static TwoFacedTiles oneLaid() {
        TwoFacedTiles x = twoTiles();
        x.lay(3, 5);
        return x;
    }

    private static TwoFacedTiles oneFixed() {
        TwoFacedTiles x = oneLaid();
        x.fix(3);
        return x;
    }

    private static void layCells() {
        for (int cell : new int[] {-1, 4, 12, Integer.MIN_VALUE, Integer.MAX_VALUE}) {
            CHECK.refused("P7 lay: cell " + cell, Check.INDEX, LayingEdgesTest::twoTiles,
                x -> x.lay(cell, 0));
        }
        for (int cell : new int[] {0, 3}) {
            CHECK.test("P7 lay: cell " + cell, () -> {
                TwoFacedTiles x = twoTiles();
                CHECK.same("lay", x.lay(cell, 0), 3);
                CHECK.same("where", x.tile(0, 2), cell);
                CHECK.same("placing", x.cell(cell, 0), 0);
            });
        }
    }

    private static void layPlacings() {
        String p = "P7 lay: ";
        for (int placing : new int[] {-1, -7, -8, -9, 16, 96, Integer.MIN_VALUE,
            Integer.MAX_VALUE}) {
            CHECK.refused(p + "placing " + placing + " of two tiles", Check.INDEX,
                LayingEdgesTest::twoTiles, x -> x.lay(0, placing));
        }
        CHECK.refused(p + "placing 0 of no tiles", Check.INDEX, TwoFacedTiles::new,
            x -> x.lay(0, 0));
        CHECK.refused(p + "placing 96 of twelve tiles", Check.INDEX,
            () -> Puzzles.alike(2, 2, 12, 1, 1), x -> x.lay(0, 96));
        CHECK.refused(p + "the placing of a tile that was dropped", Check.INDEX, () -> {
            TwoFacedTiles x = twoTiles();
            x.dropTile();
            return x;
        }, x -> x.lay(0, 8));
        for (int placing = 0; placing < 16; placing++) {
            int laid = placing;
            CHECK.test(p + "placing " + laid + " of two tiles", () -> {
                TwoFacedTiles x = twoTiles();
                CHECK.same("lay", x.lay(0, laid), 3);
                CHECK.same("placing", x.cell(0, 0), laid);
                CHECK.same("where", x.tile(laid / 8, 2), 0);
                CHECK.same("where the other is", x.tile(1 - laid / 8, 2), -1);
            });
        }
        CHECK.test(p + "placing 95 of twelve tiles", () -> {
            TwoFacedTiles x = Puzzles.alike(2, 2, 12, 1, 1);
            CHECK.same("lay", x.lay(0, 95), 3);
            CHECK.same("where", x.tile(11, 2), 0);
        });
    }

    private static void layIsNotPossible() {
        String p = "P7 lay, not possible: ";
        CHECK.refused(p + "another tile is there", Check.STATE, LayingEdgesTest::oneLaid,
            x -> x.lay(3, 8));
        CHECK.refused(p + "this tile is there", Check.STATE, LayingEdgesTest::oneLaid,
            x -> x.lay(3, 5));
        CHECK.refused(p + "a fixed tile is there", Check.STATE, LayingEdgesTest::oneFixed,
            x -> x.lay(3, 8));
        CHECK.refused(p + "the tile is laid, as it lies", Check.STATE, LayingEdgesTest::oneLaid,
            x -> x.lay(0, 5));
        CHECK.refused(p + "the tile is laid, turned otherwise", Check.STATE,
            LayingEdgesTest::oneLaid, x -> x.lay(0, 2));
        CHECK.refused(p + "at the rim", Check.STATE, () -> {
            TwoFacedTiles x = twoTiles();
            x.setRule(1);
            return x;
        }, x -> x.lay(0, 0));
        CHECK.refused(p + "other colors above", Check.STATE,
            () -> besideOnes(2111, 1111), x -> x.lay(1, 11));
        CHECK.refused(p + "other colors below", Check.STATE,
            () -> besideOnes(1111, 2111), x -> x.lay(1, 11));
        CHECK.refused(p + "0 at a shared side", Check.STATE, () -> {
            TwoFacedTiles x = Puzzles.alike(1, 2, 2, 0, 0);
            x.lay(0, 0);
            x.setRule(1);
            return x;
        }, x -> x.lay(1, 8));
    }

    /** A tile of ones lies in the left one of two cells. */
    private static TwoFacedTiles besideOnes(int face, int other) {
        TwoFacedTiles x = Puzzles.withTiles(1, 2, 1111, 1111, face, other);
        x.lay(0, 0);
        return x;
    }

    private static void layAnswers() {
        CHECK.test("P7 lay: how many cells are empty, from 11 to 0", () -> {
            TwoFacedTiles x = Puzzles.alike(3, 4, 12, 1111, 1111);
            for (int cell = 0; cell < 12; cell++) {
                CHECK.same("lay", x.lay(cell, 8 * cell), 11 - cell);
            }
        });
        CHECK.test("P7 lay: the only cell",
            () -> CHECK.same("lay", Puzzles.alike(1, 1, 1, 1, 1).lay(0, 0), 0));
        CHECK.test("P7 lay: a tile that was taken off, elsewhere", () -> {
            TwoFacedTiles x = oneLaid();
            x.take(3);
            CHECK.same("lay", x.lay(0, 1), 3);
            CHECK.same("where", x.tile(0, 2), 0);
        });
        CHECK.test("P7 lay: another tile where one was taken off", () -> {
            TwoFacedTiles x = oneLaid();
            x.take(3);
            CHECK.same("lay", x.lay(3, 8), 3);
            CHECK.same("where", x.tile(1, 2), 3);
        });
    }

    private static void layOfTwoExceptions() {
        String p = "P7 lay, two exceptions: ";
        CHECK.refused(p + "no such cell, the tile is laid", Check.INDEX,
            LayingEdgesTest::oneLaid, x -> x.lay(4, 5));
        CHECK.refused(p + "no cell -1, the tile is laid", Check.INDEX,
            LayingEdgesTest::oneLaid, x -> x.lay(-1, 5));
        CHECK.refused(p + "no such tile, the cell is not empty", Check.INDEX,
            LayingEdgesTest::oneLaid, x -> x.lay(3, 16));
        CHECK.refused(p + "placing -1, the cell is not empty", Check.INDEX,
            LayingEdgesTest::oneLaid, x -> x.lay(3, -1));
        CHECK.refused(p + "no such cell and no such tile", Check.INDEX,
            LayingEdgesTest::oneLaid, x -> x.lay(4, 16));
    }

    private static void take() {
        String p = "P8 take: ";
        for (int cell : new int[] {-1, 4, 35, Integer.MIN_VALUE, Integer.MAX_VALUE}) {
            CHECK.refused(p + "cell " + cell, Check.INDEX, LayingEdgesTest::oneLaid,
                x -> x.take(cell));
        }
        CHECK.refused(p + "an empty cell", Check.STATE, LayingEdgesTest::oneLaid,
            x -> x.take(2));
        CHECK.refused(p + "a cell that is empty again", Check.STATE, () -> {
            TwoFacedTiles x = oneLaid();
            x.take(3);
            return x;
        }, x -> x.take(3));
        CHECK.refused(p + "a fixed one", Check.STATE, LayingEdgesTest::oneFixed,
            x -> x.take(3));
        CHECK.test(p + "one that was freed", () -> {
            TwoFacedTiles x = oneFixed();
            x.fix(3);
            CHECK.same("take", x.take(3), 5);
        });
        CHECK.test(p + "the cell is not fixed then", () -> {
            TwoFacedTiles x = oneFixed();
            x.fix(3);
            x.take(3);
            CHECK.same("fixed", x.cell(3, 1), 0);
            CHECK.same("fixed cells", x.count(4), 0);
            x.lay(3, 8);
            CHECK.same("fixed with another one", x.cell(3, 1), 0);
        });
        CHECK.test(p + "another one is fixed", () -> {
            TwoFacedTiles x = oneFixed();
            x.lay(2, 8);
            CHECK.same("take", x.take(2), 8);
            CHECK.same("the fixed one", x.cell(3, 0), 5);
        });
        CHECK.test(p + "the first cell, the first placing", () -> {
            TwoFacedTiles x = twoTiles();
            x.lay(0, 0);
            CHECK.same("take", x.take(0), 0);
            CHECK.same("cell", x.cell(0, 0), -1);
        });
        CHECK.test(p + "the last cell, the highest placing", () -> {
            TwoFacedTiles x = Puzzles.alike(3, 4, 12, 1, 1);
            x.lay(11, 95);
            CHECK.same("take", x.take(11), 95);
            CHECK.same("where", x.tile(11, 2), -1);
        });
        CHECK.test(p + "one that does not fit any more", () -> {
            TwoFacedTiles x = oneLaid();
            x.setRule(2);
            CHECK.same("take", x.take(3), 5);
        });
    }

    private static void fix() {
        String p = "P9 fix: ";
        for (int cell : new int[] {-1, 4, 35, Integer.MIN_VALUE, Integer.MAX_VALUE}) {
            CHECK.refused(p + "cell " + cell, Check.INDEX, LayingEdgesTest::oneLaid,
                x -> x.fix(cell));
        }
        CHECK.refused(p + "an empty cell", Check.STATE, LayingEdgesTest::oneLaid,
            x -> x.fix(0));
        CHECK.refused(p + "a cell that is empty again", Check.STATE, () -> {
            TwoFacedTiles x = oneLaid();
            x.take(3);
            return x;
        }, x -> x.fix(3));
        CHECK.test(p + "a tile that is free", () -> {
            TwoFacedTiles x = oneLaid();
            CHECK.same("fix", x.fix(3), 1);
            CHECK.same("fixed", x.cell(3, 1), 1);
        });
        CHECK.test(p + "a tile that is fixed", () -> {
            TwoFacedTiles x = oneFixed();
            CHECK.same("fix", x.fix(3), 0);
            CHECK.same("fixed", x.cell(3, 1), 0);
        });
        CHECK.test(p + "a tile that was freed", () -> {
            TwoFacedTiles x = oneFixed();
            x.fix(3);
            CHECK.same("fix", x.fix(3), 1);
        });
        for (int cell : new int[] {0, 11}) {
            CHECK.test(p + "just cell " + cell + " of twelve", () -> {
                TwoFacedTiles x = new TwoFacedTiles();
                x.begin(3, 4);
                x.cut(918273645, 9);
                x.solve();
                CHECK.same("fix", x.fix(cell), 1);
                for (int other = 0; other < 12; other++) {
                    CHECK.same("fixed", x.cell(other, 1), other == cell ? 1 : 0);
                }
            });
        }
        CHECK.test(p + "all cells", () -> {
            TwoFacedTiles x = Puzzles.full(3, 4);
            for (int cell = 0; cell < 12; cell++) {
                CHECK.same("fix", x.fix(cell), 1);
                CHECK.same("fixed cells", x.count(4), cell + 1);
            }
        });
    }

    private static TwoFacedTiles fullWithFixed(int... cells) {
        TwoFacedTiles x = Puzzles.full(2, 3);
        for (int cell : cells) {
            x.fix(cell);
        }
        return x;
    }

    private static void clear() {
        String p = "P10 clear: ";
        CHECK.test(p + "no tiles", () -> CHECK.same("clear", new TwoFacedTiles().clear(), 0));
        CHECK.test(p + "none is laid", () -> CHECK.same("clear", twoTiles().clear(), 0));
        CHECK.test(p + "none is fixed", () -> {
            TwoFacedTiles x = fullWithFixed();
            CHECK.same("clear", x.clear(), 6);
            CHECK.same("empty cells", x.count(3), 6);
        });
        CHECK.test(p + "all twelve", () -> CHECK.same("clear", Puzzles.full(3, 4).clear(), 12));
        CHECK.test(p + "all are fixed", () -> {
            TwoFacedTiles x = fullWithFixed(0, 1, 2, 3, 4, 5);
            CHECK.same("clear", x.clear(), 0);
            CHECK.same("empty cells", x.count(3), 0);
            CHECK.same("fixed cells", x.count(4), 6);
        });
        CHECK.test(p + "the first and the last cell are fixed", () -> {
            TwoFacedTiles x = fullWithFixed(0, 5);
            CHECK.same("clear", x.clear(), 4);
            for (int cell = 0; cell < 6; cell++) {
                boolean stays = cell == 0 || cell == 5;
                CHECK.same("placing", x.cell(cell, 0), stays ? 8 * cell : -1);
                CHECK.same("where", x.tile(cell, 2), stays ? cell : -1);
                CHECK.same("fixed", x.cell(cell, 1), stays ? 1 : 0);
            }
        });
        CHECK.test(p + "one that was freed is taken off", () -> {
            TwoFacedTiles x = oneFixed();
            x.fix(3);
            CHECK.same("clear", x.clear(), 1);
        });
    }

    private static void turnOverCells() {
        String p = "P11 turnOver: ";
        CHECK.test(p + "no tile lies",
            () -> CHECK.same("turnOver", twoTiles().turnOver(), 0));
        CHECK.test(p + "one tile lies",
            () -> CHECK.same("turnOver", oneLaid().turnOver(), 1));
        CHECK.test(p + "twelve tiles lie",
            () -> CHECK.same("turnOver", Puzzles.full(3, 4).turnOver(), 12));
        Puzzles.eachSize((rows, columns) -> {
            for (int cell = 0; cell < rows * columns; cell++) {
                int from = cell;
                int to = cell / columns * columns + columns - 1 - cell % columns;
                CHECK.test(p + "cell " + from + " of " + rows + " x " + columns, () -> {
                    TwoFacedTiles x = Puzzles.alike(rows, columns, 1, 1, 2);
                    x.lay(from, 1);
                    x.fix(from);
                    x.turnOver();
                    for (int other = 0; other < rows * columns; other++) {
                        CHECK.same("in cell " + other, x.cell(other, 0), other == to ? 7 : -1);
                        CHECK.same("fixed " + other, x.cell(other, 1), other == to ? 1 : 0);
                    }
                    CHECK.same("where", x.tile(0, 2), to);
                });
            }
        });
        CHECK.test(p + "two tiles of a row change places", () -> {
            TwoFacedTiles x = Puzzles.alike(1, 2, 2, 1111, 1111);
            x.lay(0, 1);
            x.lay(1, 14);
            x.turnOver();
            CHECK.same("cell 0", x.cell(0, 0), 10);
            CHECK.same("cell 1", x.cell(1, 0), 7);
        });
    }

    private static void turnOverPlacings() {
        int[] due = {4, 7, 6, 5, 0, 3, 2, 1};
        for (int placing = 0; placing < 8; placing++) {
            int laid = placing;
            CHECK.test("P11 turnOver: placing " + laid, () -> {
                TwoFacedTiles x = Puzzles.withTiles(1, 1, 1234, 5678);
                x.lay(0, laid);
                int[] above = colors(x, false);
                int[] below = colors(x, true);
                x.turnOver();
                CHECK.same("placing", x.cell(0, 0), due[laid]);
                // Left and right change places when the board is turned over.
                int[] from = {0, 3, 2, 1};
                for (int side = 0; side < 4; side++) {
                    CHECK.same("above", x.color(0, side, false), below[from[side]]);
                    CHECK.same("below", x.color(0, side, true), above[from[side]]);
                }
            });
        }
    }

    private static int[] colors(TwoFacedTiles x, boolean below) {
        int[] colors = new int[4];
        for (int side = 0; side < 4; side++) {
            colors[side] = x.color(0, side, below);
        }
        return colors;
    }

    private static void turnOverFixed() {
        String p = "P11 turnOver, fixed cells: ";
        CHECK.test(p + "one of two in a row", () -> {
            TwoFacedTiles x = Puzzles.full(1, 2);
            x.fix(0);
            x.turnOver();
            CHECK.same("cell 0", x.cell(0, 1), 0);
            CHECK.same("cell 1", x.cell(1, 1), 1);
        });
        CHECK.test(p + "both of a row", () -> {
            TwoFacedTiles x = Puzzles.full(1, 2);
            x.fix(0);
            x.fix(1);
            x.turnOver();
            CHECK.same("fixed cells", x.count(4), 2);
        });
        CHECK.test(p + "the middle one stays fixed", () -> {
            TwoFacedTiles x = Puzzles.full(1, 3);
            x.fix(1);
            x.turnOver();
            CHECK.same("cell 1", x.cell(1, 1), 1);
            CHECK.same("fixed cells", x.count(4), 1);
        });
        CHECK.test(p + "it can't be taken where it is then", () -> {
            TwoFacedTiles x = Puzzles.full(1, 2);
            x.fix(0);
            x.turnOver();
            CHECK.same("take of the free one", x.take(0), 8 + 4);
            CHECK.refusesState("take of the fixed one", x, () -> x.take(1));
        });
    }

    private static void solveFinds() {
        String p = "P12 solve: ";
        CHECK.test(p + "no cell is empty", () -> {
            TwoFacedTiles x = Puzzles.full(2, 2);
            long saved = x.count(9);
            CHECK.same("solve", x.solve(), 0);
            CHECK.same("saved", x.count(9), Math.min(8, saved + 1));
            CHECK.same("cell 3", x.cell(3, 0), 24);
        });
        CHECK.test(p + "no cell is empty, and what lies does not fit", () -> {
            TwoFacedTiles x = Puzzles.full(1, 2);
            x.setRule(2);
            CHECK.same("solve", x.solve(), 0);
            CHECK.same("cell 1", x.cell(1, 0), 8);
        });
        CHECK.test(p + "one cell is empty", () -> {
            TwoFacedTiles x = Puzzles.full(1, 2);
            x.take(0);
            CHECK.same("solve", x.solve(), 1);
            CHECK.same("cell 0", x.cell(0, 0), 0);
            CHECK.same("where", x.tile(0, 2), 0);
        });
        CHECK.test(p + "all cells are empty", () -> {
            TwoFacedTiles x = Puzzles.alike(3, 4, 12, 1111, 1111);
            CHECK.same("solve", x.solve(), 12);
            for (int cell = 0; cell < 12; cell++) {
                CHECK.same("the first laying", x.cell(cell, 0), 8 * cell);
            }
        });
        CHECK.test(p + "more tiles than cells", () -> {
            TwoFacedTiles x = Puzzles.alike(1, 1, 12, 1, 1);
            CHECK.same("solve", x.solve(), 1);
            CHECK.same("the first one", x.cell(0, 0), 0);
            CHECK.same("the last one", x.tile(11, 2), -1);
        });
        CHECK.test(p + "what is fixed stays fixed, what is laid is free", () -> {
            TwoFacedTiles x = Puzzles.alike(1, 3, 3, 1111, 1111);
            x.lay(1, 8);
            x.fix(1);
            CHECK.same("solve", x.solve(), 2);
            CHECK.same("fixed", x.cell(1, 1), 1);
            CHECK.same("fixed cells", x.count(4), 1);
            CHECK.same("take", x.take(2), 16);
        });
    }

    private static void solveFindsNone() {
        String p = "P12 solve, none is found: ";
        CHECK.refused(p + "no tiles", Check.STATE, TwoFacedTiles::new, x -> x.solve());
        CHECK.refused(p + "a tile too few", Check.STATE,
            () -> Puzzles.alike(2, 2, 3, 1111, 1111), x -> x.solve());
        CHECK.refused(p + "nothing fits at the last cell", Check.STATE,
            () -> Puzzles.withTiles(1, 2, 1111, 1111, 2222, 2222), x -> x.solve());
        CHECK.refused(p + "nothing fits at the rim", Check.STATE, () -> {
            TwoFacedTiles x = Puzzles.alike(1, 1, 1, 1111, 1111);
            x.setRule(1);
            return x;
        }, x -> x.solve());
        CHECK.refused(p + "nothing fits beside a fixed one", Check.STATE, () -> {
            TwoFacedTiles x = Puzzles.withTiles(1, 2, 1111, 1111, 2222, 2222);
            x.lay(1, 0);
            x.fix(1);
            return x;
        }, x -> x.solve());
    }

    /** The steps to the first laying of these tiles were counted with the Model. */
    private static void solveSteps() {
        CHECK.test("P12 solve: the first laying is found by step 600", () -> {
            TwoFacedTiles x = Puzzles.withTiles(1, 4,
                2112, 1111, 1111, 1111, 2222, 1222, 1111, 1111);
            CHECK.same("steps", x.layings(1, 1), 600);
            CHECK.same("solve", x.solve(), 4);
            CHECK.same("empty cells", x.count(3), 0);
        });
        CHECK.refused("P12 solve: it would be found by step 601", Check.STATE,
            () -> Puzzles.withTiles(1, 4, 2112, 1111, 1221, 2212, 1111, 1111, 1111, 1111),
            x -> x.solve());
    }
}
