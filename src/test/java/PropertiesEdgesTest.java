/** A test for each case of each boundary that the document names for the promises 18 to 21. */
public final class PropertiesEdgesTest {
    private static final Check CHECK = new Check();

    public static void main(String[] args) {
        cellRanges();
        cellOfEachKind();
        cellPossible();
        colorRanges();
        colorOfEmptyCells();
        tileRanges();
        tileFacesAndPlace();
        tileLooksLike();
        tileLooksOtherwise();
        countRanges();
        countNumbers();
        countPairs();
        countMisfitsAtRims();
        countMisfitsAtSharedSides();
        CHECK.end();
    }

    /** Tile 0 lies in cell 0, tile 1 is fixed in cell 3, tile 2 is not laid. */
    private static TwoFacedTiles some() {
        TwoFacedTiles x = Puzzles.alike(2, 2, 3, 1111, 1111);
        x.lay(0, 3);
        x.lay(3, 12);
        x.fix(3);
        return x;
    }

    private static void cellRanges() {
        String p = "P18 cell: ";
        for (int cell : new int[] {-1, 4, 12, Integer.MIN_VALUE, Integer.MAX_VALUE}) {
            CHECK.refused(p + "cell " + cell, Check.INDEX, PropertiesEdgesTest::some,
                x -> x.cell(cell, 0));
            CHECK.refused(p + "cell " + cell + " and what 4", Check.INDEX,
                PropertiesEdgesTest::some, x -> x.cell(cell, 4));
            CHECK.refused(p + "cell " + cell + " and what -1", Check.INDEX,
                PropertiesEdgesTest::some, x -> x.cell(cell, -1));
        }
        for (int what : new int[] {-1, 4, Integer.MIN_VALUE, Integer.MAX_VALUE}) {
            for (int cell : new int[] {0, 1, 3}) {
                CHECK.refused(p + "what " + what + " of cell " + cell, Check.ARGUMENT,
                    PropertiesEdgesTest::some, x -> x.cell(cell, what));
            }
        }
    }

    private static void cellOfEachKind() {
        int[][] due = {{3, 0, 0, -1}, {-1, 0, 8, 16}, {-1, 0, 8, 16}, {12, 1, 0, -1}};
        String[] kinds = {"laid", "empty", "empty", "fixed"};
        for (int i = 0; i < 4; i++) {
            int cell = i;
            for (int j = 0; j < 4; j++) {
                int what = j;
                CHECK.test("P18 cell: what " + what + " of cell " + cell + ", " + kinds[cell],
                    () -> CHECK.same("cell", some().cell(cell, what), due[cell][what]));
            }
        }
        CHECK.test("P18 cell: the placing 0", () -> {
            TwoFacedTiles x = Puzzles.full(1, 1);
            CHECK.same("cell", x.cell(0, 0), 0);
        });
        CHECK.test("P18 cell: freed", () -> {
            TwoFacedTiles x = some();
            x.fix(3);
            CHECK.same("cell", x.cell(3, 1), 0);
        });
    }

    private static void possible(String name, Check.Make make, int cell, int count, int first) {
        CHECK.test("P18 cell: how many are possible, " + name,
            () -> CHECK.same("cell", make.make().cell(cell, 2), count));
        CHECK.test("P18 cell: the first possible, " + name,
            () -> CHECK.same("cell", make.make().cell(cell, 3), first));
    }

    private static void cellPossible() {
        possible("no tiles", TwoFacedTiles::new, 0, 0, -1);
        possible("one tile", () -> Puzzles.alike(2, 2, 1, 1, 2), 3, 8, 0);
        possible("twelve tiles", () -> Puzzles.alike(2, 2, 12, 1, 2), 3, 96, 0);
        possible("all are laid", () -> {
            TwoFacedTiles x = Puzzles.alike(1, 2, 1, 1, 2);
            x.lay(0, 0);
            return x;
        }, 1, 0, -1);
        possible("none fits", () -> {
            TwoFacedTiles x = Puzzles.withTiles(1, 2, 1111, 1111, 2222, 2222);
            x.lay(0, 0);
            return x;
        }, 1, 0, -1);
        possible("none fits at the rim", () -> {
            TwoFacedTiles x = Puzzles.alike(1, 1, 1, 1111, 1111);
            x.setRule(1);
            return x;
        }, 0, 0, -1);
        possible("the last placing alone", () -> {
            TwoFacedTiles x = Puzzles.withTiles(1, 2, 5555, 1111, 1234, 5678);
            x.lay(0, 0);
            return x;
        }, 1, 1, 15);
        possible("tile 0 is laid", PropertiesEdgesTest::some, 1, 8, 16);
        possible("the fixed tile is asked as any other", () -> {
            TwoFacedTiles x = Puzzles.withTiles(1, 2, 1111, 1111, 2222, 2222);
            x.lay(0, 0);
            x.fix(0);
            return x;
        }, 1, 0, -1);
    }

    private static void colorRanges() {
        String p = "P19 color: ";
        for (int cell : new int[] {-1, 4, 12, Integer.MIN_VALUE, Integer.MAX_VALUE}) {
            CHECK.refused(p + "cell " + cell + " above", Check.INDEX, PropertiesEdgesTest::some,
                x -> x.color(cell, 0, false));
            CHECK.refused(p + "cell " + cell + " below", Check.INDEX, PropertiesEdgesTest::some,
                x -> x.color(cell, 0, true));
            CHECK.refused(p + "cell " + cell + " and side 4", Check.INDEX,
                PropertiesEdgesTest::some, x -> x.color(cell, 4, true));
        }
        for (int side : new int[] {-1, 4, Integer.MIN_VALUE, Integer.MAX_VALUE}) {
            CHECK.refused(p + "side " + side + " above", Check.INDEX, PropertiesEdgesTest::some,
                x -> x.color(0, side, false));
            CHECK.refused(p + "side " + side + " below", Check.INDEX, PropertiesEdgesTest::some,
                x -> x.color(0, side, true));
            CHECK.refused(p + "side " + side + " of an empty cell", Check.INDEX,
                PropertiesEdgesTest::some, x -> x.color(1, side, false));
        }
        int[] above = {0, 9, 1, 8};
        int[] below = {7, 3, 9, 0};
        for (int i = 0; i < 4; i++) {
            int side = i;
            CHECK.test(p + "side " + side + " above, colors from 0 to 9",
                () -> CHECK.same("color", zeroToNine().color(0, side, false), above[side]));
            CHECK.test(p + "side " + side + " below, colors from 0 to 9",
                () -> CHECK.same("color", zeroToNine().color(0, side, true), below[side]));
        }
    }

    private static TwoFacedTiles zeroToNine() {
        TwoFacedTiles x = Puzzles.withTiles(1, 1, 918, 7093);
        x.lay(0, 0);
        return x;
    }

    private static void colorOfEmptyCells() {
        for (int i = 0; i < 4; i++) {
            int side = i;
            CHECK.test("P19 color: an empty cell above at side " + side,
                () -> CHECK.same("color", some().color(1, side, false), -1));
            CHECK.test("P19 color: an empty cell below at side " + side,
                () -> CHECK.same("color", some().color(1, side, true), -1));
        }
        CHECK.test("P19 color: a cell that is empty again", () -> {
            TwoFacedTiles x = some();
            x.take(0);
            CHECK.same("above", x.color(0, 0, false), -1);
            CHECK.same("below", x.color(0, 0, true), -1);
        });
    }

    private static void tileRanges() {
        String p = "P20 tile: ";
        for (int tile : new int[] {-1, 3, 12, Integer.MIN_VALUE, Integer.MAX_VALUE}) {
            CHECK.refused(p + "tile " + tile, Check.INDEX, PropertiesEdgesTest::some,
                x -> x.tile(tile, 0));
            CHECK.refused(p + "tile " + tile + " and what 4", Check.INDEX,
                PropertiesEdgesTest::some, x -> x.tile(tile, 4));
            CHECK.refused(p + "tile " + tile + " and what -1", Check.INDEX,
                PropertiesEdgesTest::some, x -> x.tile(tile, -1));
        }
        CHECK.refused(p + "tile 0 of none", Check.INDEX, TwoFacedTiles::new, x -> x.tile(0, 0));
        CHECK.refused(p + "tile 12 of twelve", Check.INDEX, () -> Puzzles.alike(2, 2, 12, 1, 1),
            x -> x.tile(12, 0));
        for (int what : new int[] {-1, 4, Integer.MIN_VALUE, Integer.MAX_VALUE}) {
            CHECK.refused(p + "what " + what, Check.ARGUMENT, PropertiesEdgesTest::some,
                x -> x.tile(2, what));
        }
        CHECK.test(p + "tile 11 of twelve",
            () -> CHECK.same("tile", Puzzles.alike(2, 2, 12, 5, 6).tile(11, 1), 6));
    }

    private static void tileFacesAndPlace() {
        String p = "P20 tile: ";
        for (int face : new int[] {0, 5, 50, 500, 5000, 9999, 1234}) {
            CHECK.test(p + "face 0 is " + face, () -> CHECK.same("tile",
                Puzzles.withTiles(1, 1, face, 4321).tile(0, 0), face));
            CHECK.test(p + "face 1 is " + face, () -> CHECK.same("tile",
                Puzzles.withTiles(1, 1, 4321, face).tile(0, 1), face));
        }
        CHECK.test(p + "the faces of one that lies turned and turned over", () -> {
            TwoFacedTiles x = Puzzles.withTiles(1, 1, 1234, 5678);
            x.lay(0, 7);
            CHECK.same("face 0", x.tile(0, 0), 1234);
            CHECK.same("face 1", x.tile(0, 1), 5678);
        });
        CHECK.test(p + "in cell 0", () -> CHECK.same("tile", some().tile(0, 2), 0));
        CHECK.test(p + "in the last cell", () -> CHECK.same("tile", some().tile(1, 2), 3));
        CHECK.test(p + "not laid", () -> CHECK.same("tile", some().tile(2, 2), -1));
        CHECK.test(p + "taken off", () -> {
            TwoFacedTiles x = some();
            x.take(0);
            CHECK.same("tile", x.tile(0, 2), -1);
        });
    }

    private static void like(String name, int due, int... faces) {
        CHECK.test("P20 tile: looks like, " + name, () -> {
            TwoFacedTiles x = Puzzles.withTiles(2, 2, faces);
            CHECK.same("tile", x.tile(faces.length / 2 - 1, 3), due);
        });
    }

    private static void tileLooksLike() {
        int[][] ways = {{1234, 5678}, {4123, 6785}, {3412, 7856}, {2341, 8567},
            {5678, 1234}, {8567, 2341}, {7856, 3412}, {6785, 4123}};
        for (int way = 0; way < 8; way++) {
            like("itself in way " + way, 0, 1234, 5678, ways[way][0], ways[way][1]);
            like("tile 3 of five in way " + way, 3, 1, 2, 3, 4, 5, 6, 1234, 5678,
                ways[way][0], ways[way][1]);
        }
        like("the tile just before the highest", 10, 1, 0, 2, 0, 3, 0, 4, 0, 5, 0, 6, 0, 7, 0,
            8, 0, 9, 0, 11, 0, 1234, 5678, 6785, 4123);
        like("it alone", 0, 1234, 5678);
        like("the lowest of several", 0, 1234, 5678, 1234, 5678, 1234, 5678);
        like("not the lowest tile of all", 1, 0, 0, 1234, 5678, 1234, 5678);
        like("the highest tile looks like the lowest", 0, 1234, 5678, 1, 0, 2, 0, 3, 0, 4, 0,
            5, 0, 6, 0, 7, 0, 8, 0, 9, 0, 11, 0, 5678, 1234);
        CHECK.test("P20 tile: looks like, a higher one does not count", () -> {
            TwoFacedTiles x = Puzzles.alike(2, 2, 2, 1234, 5678);
            CHECK.same("tile", x.tile(0, 3), 0);
        });
        CHECK.test("P20 tile: looks like, laid otherwise", () -> {
            TwoFacedTiles x = Puzzles.alike(2, 2, 2, 1111, 1111);
            x.lay(0, 0);
            x.lay(3, 13);
            CHECK.same("tile", x.tile(1, 3), 0);
        });
        CHECK.test("P20 tile: looks like, the lower one was dropped and came again", () -> {
            TwoFacedTiles x = Puzzles.withTiles(2, 2, 1, 1, 1234, 5678);
            x.dropTile();
            x.addTile(1, 1);
            CHECK.same("tile", x.tile(1, 3), 0);
        });
    }

    private static void tileLooksOtherwise() {
        like("another color above", 1, 1234, 5678, 1235, 5678);
        like("another color below", 1, 1234, 5678, 1234, 5679);
        like("only face 0 turned", 1, 1234, 5678, 4123, 5678);
        like("only face 1 turned", 1, 1234, 5678, 1234, 8567);
        like("both turned the same way as faces", 1, 1234, 5678, 4123, 8567);
        like("both mirrored", 1, 1234, 5678, 1432, 5876);
        like("faces exchanged, but turned apart", 1, 1234, 5678, 5678, 4123);
        like("all different, the last of twelve", 11, 1, 0, 2, 0, 3, 0, 4, 0, 5, 0, 6, 0, 7, 0,
            8, 0, 9, 0, 11, 0, 22, 0, 33, 0);
    }

    private static void countRanges() {
        for (int what : new int[] {-1, 10, Integer.MIN_VALUE, Integer.MAX_VALUE}) {
            CHECK.refused("P21 count: what " + what, Check.ARGUMENT, PropertiesEdgesTest::some,
                x -> x.count(what));
        }
    }

    private static void count(String name, Check.Make make, int what, int due) {
        CHECK.test("P21 count(" + what + "): " + name,
            () -> CHECK.same("count", make.make().count(what), due));
    }

    private static void countNumbers() {
        Puzzles.eachSize((rows, columns) -> {
            count(rows + " x " + columns, () -> Puzzles.withTiles(rows, columns), 0, rows);
            count(rows + " x " + columns, () -> Puzzles.withTiles(rows, columns), 1, columns);
        });
        count("no tiles", TwoFacedTiles::new, 2, 0);
        count("twelve tiles", () -> Puzzles.alike(2, 2, 12, 1, 1), 2, 12);
        count("twelve tiles lie", () -> Puzzles.full(3, 4), 2, 12);
        count("all are empty", () -> Puzzles.withTiles(3, 4), 3, 12);
        count("some are empty", PropertiesEdgesTest::some, 3, 2);
        count("none is empty", () -> Puzzles.full(3, 4), 3, 0);
        count("none is fixed", () -> Puzzles.full(3, 4), 4, 0);
        count("one is fixed", PropertiesEdgesTest::some, 4, 1);
        count("all are fixed", () -> {
            TwoFacedTiles x = Puzzles.full(3, 4);
            for (int cell = 0; cell < 12; cell++) {
                x.fix(cell);
            }
            return x;
        }, 4, 12);
        for (int i = 0; i <= 2; i++) {
            int rule = i;
            count("rule " + rule, () -> {
                TwoFacedTiles x = new TwoFacedTiles();
                x.setRule(rule);
                return x;
            }, 5, rule);
        }
        count("no saved state", TwoFacedTiles::new, 9, 0);
        count("seven saved states", () -> Puzzles.alike(2, 2, 6, 1, 1), 9, 7);
        count("eight saved states", () -> Puzzles.alike(2, 2, 7, 1, 1), 9, 8);
        count("nine calls that save", () -> Puzzles.alike(2, 2, 8, 1, 1), 9, 8);
    }

    private static TwoFacedTiles laidIn(int color, int behind, int... cells) {
        TwoFacedTiles x = Puzzles.alike(3, 4, 12, 1111 * color, 1111 * behind);
        for (int i = 0; i < cells.length; i++) {
            x.lay(cells[i], 8 * i);
        }
        return x;
    }

    /** Tiles only lie where they fit, so each pair has the same color above and below. */
    private static void countPairs() {
        for (int what = 6; what <= 7; what++) {
            count("none is laid", () -> laidIn(1, 2), what, 0);
            count("one is laid", () -> laidIn(1, 2, 5), what, 0);
            count("two at a corner", () -> laidIn(1, 2, 5, 10), what, 0);
            count("two with a cell between them", () -> laidIn(1, 2, 4, 6), what, 0);
            count("a row's end and the next one's start", () -> laidIn(1, 2, 3, 4), what, 0);
            count("both ends of a row", () -> laidIn(1, 2, 0, 3), what, 0);
            count("both ends of a column", () -> laidIn(1, 2, 0, 8), what, 0);
            count("two side by side", () -> laidIn(1, 2, 5, 6), what, 1);
            count("two, one under the other", () -> laidIn(1, 2, 5, 9), what, 1);
            count("color 0 above", () -> laidIn(0, 2, 5, 6), what, 1);
            count("color 0 below", () -> laidIn(1, 0, 5, 6), what, 1);
            count("color 0 above and below", () -> laidIn(0, 0, 5, 6), what, 1);
            count("four around one", () -> laidIn(1, 2, 5, 1, 4, 6, 9), what, 4);
            count("the last pair", () -> laidIn(1, 2, 10, 11), what, 1);
            count("a full board", () -> Puzzles.full(3, 4), what, 17);
            count("color 0 that the rule forbids", () -> {
                TwoFacedTiles x = laidIn(0, 0, 5, 6);
                x.setRule(2);
                return x;
            }, what, 1);
        }
    }

    private static TwoFacedTiles ruled(int rule, TwoFacedTiles x) {
        x.setRule(rule);
        return x;
    }

    private static void countMisfitsAtRims() {
        int[] beside = {1, 5, 7, 3};
        for (int i = 0; i < 4; i++) {
            int side = i;
            int above = Puzzles.front(side, 1, 0);
            int below = Puzzles.back(side, 1, 0);
            for (int j = 0; j <= 2; j++) {
                int rule = j;
                String p = "rule " + rule + ", rim at side " + side + ", ";
                count(p + "not 0 above",
                    () -> ruled(rule, oneOfNine(beside[side], above, 0)), 8, rule >= 1 ? 1 : 0);
                count(p + "not 0 below",
                    () -> ruled(rule, oneOfNine(beside[side], 0, below)), 8, rule == 2 ? 1 : 0);
                count(p + "0 there alone", () -> ruled(rule, oneOfNine(beside[side],
                    Puzzles.front(side, 0, 1), Puzzles.back(side, 0, 1))), 8, 0);
            }
        }
        count("none is laid", () -> ruled(2, Puzzles.alike(2, 2, 4, 1111, 1111)), 8, 0);
        count("each of a full board", () -> ruled(1, Puzzles.full(2, 2)), 8, 4);
        count("all but those without a rim", () -> ruled(1, Puzzles.full(3, 4)), 8, 10);
    }

    private static TwoFacedTiles oneOfNine(int cell, int face, int other) {
        TwoFacedTiles x = Puzzles.withTiles(3, 3, face, other);
        x.lay(cell, 0);
        return x;
    }

    private static void countMisfitsAtSharedSides() {
        int[][] zeros = {{0, 1}, {1, 0}, {0, 0}, {1, 1}};
        String[] names = {"0 above", "0 below", "0 above and below", "no 0"};
        int[][] due = {{0, 0, 0, 0}, {2, 0, 2, 0}, {2, 2, 2, 0}};
        for (int i = 0; i < 4; i++) {
            int[] zero = zeros[i];
            for (int j = 0; j <= 2; j++) {
                int rule = j;
                int misfits = due[rule][i];
                count("rule " + rule + ", side by side, " + names[i],
                    () -> ruled(rule, laidIn(zero[0], zero[1], 5, 6)), 8, misfits);
                count("rule " + rule + ", one above the other, " + names[i], () -> {
                    TwoFacedTiles x = Puzzles.withTiles(3, 1,
                        10 * zero[0], 10 * zero[1], 1000 * zero[0], 1000 * zero[1]);
                    x.lay(0, 0);
                    x.lay(1, 8);
                    return ruled(rule, x);
                }, 8, misfits);
            }
        }
        count("one of three shares no 0", () -> {
            TwoFacedTiles x = Puzzles.withTiles(1, 4, 0, 0, 100, 2, 1, 200);
            x.lay(0, 0);
            x.lay(1, 8);
            x.lay(2, 16);
            return ruled(1, x);
        }, 8, 2);
        count("a tile alone", () -> ruled(2, laidIn(0, 0, 5)), 8, 0);
    }
}
