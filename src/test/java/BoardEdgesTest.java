/**
 * A test for each case of each boundary that the document names for the board, the tiles and the
 * promises 1 to 6. A name tells the promise (T: the chapter "Terms") and the case.
 */
public final class BoardEdgesTest {
    private static final Check CHECK = new Check();

    public static void main(String[] args) {
        newObject();
        cellNumbers();
        neighborsOfEachSize();
        tileNumbers();
        beginRanges();
        beginLeavesAndTakes();
        addTileRanges();
        addTileTwelve();
        dropTile();
        setRule();
        cutRanges();
        cutReplaces();
        cutColors();
        cutDigits();
        CHECK.end();
    }

    private static void newObject() {
        String p = "P1 new: ";
        CHECK.test(p + "NONE is -1", () -> CHECK.same("NONE", TwoFacedTiles.NONE, -1));
        int[] due = {2, 2, 0, 4, 0, 0, 0, 0, 0, 0};
        for (int what = 0; what < due.length; what++) {
            int asked = what;
            CHECK.test(p + "count(" + asked + ")",
                () -> CHECK.same("count", new TwoFacedTiles().count(asked), due[asked]));
        }
        for (int cell = 0; cell < 4; cell++) {
            int asked = cell;
            CHECK.test(p + "cell " + asked + " is empty",
                () -> CHECK.same("cell", new TwoFacedTiles().cell(asked, 0), -1));
        }
        CHECK.test(p + "the buffer is empty",
            () -> CHECK.same("clearBuffer", new TwoFacedTiles().clearBuffer(), 0));
        CHECK.refused(p + "no fifth cell", Check.INDEX, TwoFacedTiles::new, x -> x.cell(4, 0));
        CHECK.refused(p + "no tile 0", Check.INDEX, TwoFacedTiles::new, x -> x.tile(0, 0));
        CHECK.refused(p + "no saved state", Check.STATE, TwoFacedTiles::new, x -> x.undo());
    }

    private static void cellNumbers() {
        Puzzles.eachSize((rows, columns) -> {
            String size = " of " + rows + " x " + columns;
            int cells = rows * columns;
            Check.Make make = () -> Puzzles.alike(rows, columns, 1, 0, 0);
            CHECK.test("T cells: the first one" + size,
                () -> CHECK.same("lay", make.make().lay(0, 0), cells - 1));
            CHECK.test("T cells: the last one" + size,
                () -> CHECK.same("lay", make.make().lay(cells - 1, 0), cells - 1));
            CHECK.refused("T cells: one before" + size, Check.INDEX, make, x -> x.lay(-1, 0));
            CHECK.refused("T cells: one behind" + size, Check.INDEX, make, x -> x.lay(cells, 0));
        });
    }

    /** Row by row, and neither from a row's end to the next one's start nor around the board. */
    private static void neighborsOfEachSize() {
        Puzzles.eachSize((rows, columns) ->
            CHECK.test("T cells: which share a side on " + rows + " x " + columns, () -> {
                for (int cell = 0; cell < rows * columns; cell++) {
                    TwoFacedTiles x = Puzzles.withTiles(rows, columns, 1111, 1111, 2222, 2222);
                    x.lay(cell, 0);
                    for (int other = 0; other < rows * columns; other++) {
                        if (other != cell) {
                            CHECK.same("why of " + other + " beside " + cell, x.why(other, 8),
                                shareSide(cell, other, columns) ? 4 : 0);
                        }
                    }
                }
            }));
    }

    private static boolean shareSide(int cell, int other, int columns) {
        int down = Math.abs(cell / columns - other / columns);
        int right = Math.abs(cell % columns - other % columns);
        return down + right == 1;
    }

    private static void tileNumbers() {
        CHECK.test("T tiles: numbered from 0 in the order in which they came", () -> {
            TwoFacedTiles x = new TwoFacedTiles();
            for (int tile = 0; tile < 12; tile++) {
                CHECK.same("addTile", x.addTile(tile, 100 + tile), tile);
            }
            for (int tile = 0; tile < 12; tile++) {
                CHECK.same("face 0", x.tile(tile, 0), tile);
                CHECK.same("face 1", x.tile(tile, 1), 100 + tile);
            }
        });
        int[] edges = {9000, 900, 90, 9};
        for (int side = 0; side < 4; side++) {
            int at = side;
            CHECK.test("T tiles: edge " + at + " is told at side " + at, () -> {
                TwoFacedTiles x = Puzzles.withTiles(1, 1, edges[at], 0);
                x.lay(0, 0);
                for (int asked = 0; asked < 4; asked++) {
                    CHECK.same("color", x.color(0, asked, false), asked == at ? 9 : 0);
                }
            });
        }
    }

    private static void beginRanges() {
        String p = "P2 begin: ";
        for (int wrong : new int[] {0, 4, -1, Integer.MIN_VALUE, Integer.MAX_VALUE}) {
            CHECK.refused(p + "rows " + wrong, Check.ARGUMENT, TwoFacedTiles::new,
                x -> x.begin(wrong, 1));
        }
        for (int wrong : new int[] {0, 5, -1, Integer.MIN_VALUE, Integer.MAX_VALUE}) {
            CHECK.refused(p + "columns " + wrong, Check.ARGUMENT, TwoFacedTiles::new,
                x -> x.begin(1, wrong));
        }
        CHECK.refused(p + "both too small", Check.ARGUMENT, TwoFacedTiles::new,
            x -> x.begin(0, 0));
        CHECK.refused(p + "both too large", Check.ARGUMENT, TwoFacedTiles::new,
            x -> x.begin(4, 5));
        CHECK.refused(p + "a product that wraps to 0", Check.ARGUMENT, TwoFacedTiles::new,
            x -> x.begin(65536, 65536));
        Puzzles.eachSize((rows, columns) -> CHECK.test(p + rows + " x " + columns, () -> {
            TwoFacedTiles x = new TwoFacedTiles();
            CHECK.same("begin", x.begin(rows, columns), rows * columns);
            CHECK.same("rows", x.count(0), rows);
            CHECK.same("columns", x.count(1), columns);
            CHECK.same("empty cells", x.count(3), rows * columns);
        }));
    }

    /** Two tiles, the first one laid and fixed in cell 3 of 2 x 2, and a character. */
    private static TwoFacedTiles begun() {
        TwoFacedTiles x = Puzzles.withTiles(2, 2, 1234, 5678, 7, 9000);
        x.lay(3, 6);
        x.fix(3);
        x.append('~');
        return x;
    }

    private static void beginLeavesAndTakes() {
        String p = "P2 begin: ";
        for (int columns : new int[] {2, 3}) {
            String size = ", columns " + columns;
            CHECK.test(p + "the board is empty" + size, () -> {
                TwoFacedTiles x = begun();
                x.begin(2, columns);
                for (int cell = 0; cell < 2 * columns; cell++) {
                    CHECK.same("cell", x.cell(cell, 0), -1);
                }
                CHECK.same("none is laid", x.tile(0, 2), -1);
            });
            CHECK.test(p + "nothing is fixed" + size, () -> {
                TwoFacedTiles x = begun();
                x.begin(2, columns);
                CHECK.same("fixed cells", x.count(4), 0);
                x.lay(3, 0);
                CHECK.same("the cell that was fixed", x.cell(3, 1), 0);
            });
            CHECK.test(p + "the tiles stay" + size, () -> {
                TwoFacedTiles x = begun();
                x.begin(2, columns);
                CHECK.same("tiles", x.count(2), 2);
                CHECK.same("face 0", x.tile(0, 0), 1234);
                CHECK.same("face 1", x.tile(0, 1), 5678);
                CHECK.same("face 0 of the other", x.tile(1, 0), 7);
                CHECK.same("face 1 of the other", x.tile(1, 1), 9000);
            });
        }
        for (int rule = 0; rule <= 2; rule++) {
            int kept = rule;
            CHECK.test(p + "rule " + kept + " and the buffer stay", () -> {
                TwoFacedTiles x = begun();
                x.setRule(kept);
                x.begin(3, 4);
                CHECK.same("rule", x.count(5), kept);
                CHECK.same("buffer", x.clearBuffer(), 1);
            });
        }
        CHECK.test(p + "a smaller board, then the old size: what lay does not come back", () -> {
            TwoFacedTiles x = Puzzles.alike(3, 4, 1, 0, 0);
            x.lay(11, 0);
            x.fix(11);
            x.begin(1, 1);
            x.begin(3, 4);
            CHECK.same("cell 11", x.cell(11, 0), -1);
            CHECK.same("fixed", x.cell(11, 1), 0);
        });
        CHECK.test(p + "more tiles than cells", () -> {
            TwoFacedTiles x = Puzzles.alike(3, 4, 12, 1, 2);
            CHECK.same("begin", x.begin(1, 1), 1);
            CHECK.same("tiles", x.count(2), 12);
            CHECK.same("lay of the last one", x.lay(0, 95), 0);
        });
    }

    private static void addTileRanges() {
        String p = "P3 addTile: ";
        for (int wrong : new int[] {-1, 10000, Integer.MIN_VALUE, Integer.MAX_VALUE}) {
            CHECK.refused(p + "face " + wrong, Check.ARGUMENT, TwoFacedTiles::new,
                x -> x.addTile(wrong, 0));
            CHECK.refused(p + "other " + wrong, Check.ARGUMENT, TwoFacedTiles::new,
                x -> x.addTile(0, wrong));
            CHECK.refused(p + "face and other " + wrong, Check.ARGUMENT, TwoFacedTiles::new,
                x -> x.addTile(wrong, wrong));
            CHECK.refused(p + "face " + wrong + " when there are 12 tiles", Check.ARGUMENT,
                () -> Puzzles.alike(2, 2, 12, 1, 1), x -> x.addTile(wrong, 0));
            CHECK.refused(p + "other " + wrong + " when there are 12 tiles", Check.ARGUMENT,
                () -> Puzzles.alike(2, 2, 12, 1, 1), x -> x.addTile(0, wrong));
        }
        for (int right : new int[] {0, 9999, 1, 10, 100, 1000, 9, 99, 999}) {
            CHECK.test(p + "face " + right, () -> {
                TwoFacedTiles x = new TwoFacedTiles();
                CHECK.same("addTile", x.addTile(right, 1234), 0);
                CHECK.same("face 0", x.tile(0, 0), right);
                CHECK.same("face 1", x.tile(0, 1), 1234);
            });
            CHECK.test(p + "other " + right, () -> {
                TwoFacedTiles x = new TwoFacedTiles();
                CHECK.same("addTile", x.addTile(1234, right), 0);
                CHECK.same("face 0", x.tile(0, 0), 1234);
                CHECK.same("face 1", x.tile(0, 1), right);
            });
        }
    }

    private static void addTileTwelve() {
        String p = "P3 addTile: ";
        CHECK.test(p + "the 12th tile",
            () -> CHECK.same("addTile", Puzzles.alike(2, 2, 11, 1, 1).addTile(5, 6), 11));
        CHECK.refused(p + "a 13th tile", Check.STATE, () -> Puzzles.alike(2, 2, 12, 1, 1),
            x -> x.addTile(5, 6));
        CHECK.refused(p + "a 13th tile after cut", Check.STATE, () -> {
            TwoFacedTiles x = Puzzles.withTiles(3, 4);
            x.cut(1, 1);
            return x;
        }, x -> x.addTile(5, 6));
        CHECK.refused(p + "a 13th tile after load", Check.STATE, () -> {
            TwoFacedTiles x = Puzzles.alike(2, 2, 11, 1, 1);
            Puzzles.write(x, "1111/1111");
            x.load();
            return x;
        }, x -> x.addTile(5, 6));
        CHECK.test(p + "the 12th tile again, after it was dropped", () -> {
            TwoFacedTiles x = Puzzles.alike(2, 2, 12, 1, 1);
            x.dropTile();
            CHECK.same("addTile", x.addTile(5, 6), 11);
            CHECK.same("face 0", x.tile(11, 0), 5);
        });
        CHECK.test(p + "a new tile is not laid, though one with its number was", () -> {
            TwoFacedTiles x = Puzzles.alike(1, 1, 1, 1, 1);
            x.lay(0, 0);
            x.take(0);
            x.dropTile();
            x.addTile(2, 2);
            CHECK.same("where", x.tile(0, 2), -1);
        });
    }

    private static void dropTile() {
        String p = "P4 dropTile: ";
        CHECK.refused(p + "no tiles", Check.STATE, TwoFacedTiles::new, x -> x.dropTile());
        CHECK.refused(p + "no tiles any more", Check.STATE, () -> {
            TwoFacedTiles x = Puzzles.alike(2, 2, 1, 1, 1);
            x.dropTile();
            return x;
        }, x -> x.dropTile());
        CHECK.refused(p + "it is laid", Check.STATE, () -> {
            TwoFacedTiles x = Puzzles.alike(2, 2, 2, 1, 1);
            x.lay(0, 8);
            return x;
        }, x -> x.dropTile());
        CHECK.refused(p + "it is laid, tile 0 in the last cell", Check.STATE, () -> {
            TwoFacedTiles x = Puzzles.alike(2, 2, 1, 1, 1);
            x.lay(3, 0);
            return x;
        }, x -> x.dropTile());
        CHECK.refused(p + "it is laid and fixed", Check.STATE, () -> {
            TwoFacedTiles x = Puzzles.alike(2, 2, 1, 1, 1);
            x.lay(3, 0);
            x.fix(3);
            return x;
        }, x -> x.dropTile());
        CHECK.test(p + "another one is laid", () -> {
            TwoFacedTiles x = Puzzles.withTiles(2, 2, 1, 2, 3, 4);
            x.lay(0, 0);
            CHECK.same("dropTile", x.dropTile(), 1);
            CHECK.same("the one that lies", x.tile(0, 2), 0);
            CHECK.same("its face", x.tile(0, 1), 2);
        });
        CHECK.test(p + "it was laid and is taken off", () -> {
            TwoFacedTiles x = Puzzles.alike(2, 2, 1, 1, 1);
            x.lay(0, 0);
            x.take(0);
            CHECK.same("dropTile", x.dropTile(), 0);
        });
        CHECK.test(p + "twelve tiles, one after the other", () -> {
            TwoFacedTiles x = Puzzles.alike(2, 2, 12, 1, 1);
            for (int left = 11; left >= 0; left--) {
                CHECK.same("dropTile", x.dropTile(), left);
                CHECK.same("tiles", x.count(2), left);
            }
        });
        CHECK.refused(p + "the tile is gone", Check.INDEX, () -> {
            TwoFacedTiles x = Puzzles.alike(2, 2, 2, 1, 1);
            x.dropTile();
            return x;
        }, x -> x.tile(1, 0));
    }

    private static void setRule() {
        String p = "P5 setRule: ";
        for (int wrong : new int[] {-1, 3, Integer.MIN_VALUE, Integer.MAX_VALUE}) {
            CHECK.refused(p + "rule " + wrong, Check.ARGUMENT, TwoFacedTiles::new,
                x -> x.setRule(wrong));
        }
        for (int before = 0; before <= 2; before++) {
            for (int after = 0; after <= 2; after++) {
                int from = before;
                int to = after;
                CHECK.test(p + "from " + from + " to " + to, () -> {
                    TwoFacedTiles x = new TwoFacedTiles();
                    x.setRule(from);
                    CHECK.same("setRule", x.setRule(to), from);
                    CHECK.same("rule", x.count(5), to);
                    CHECK.same("saved states", x.count(9), 2);
                });
            }
        }
        for (int rule = 1; rule <= 2; rule++) {
            int asked = rule;
            CHECK.test(p + "tiles that do not fit any more with " + asked + " stay", () -> {
                TwoFacedTiles x = Puzzles.full(1, 2);
                x.fix(1);
                x.setRule(asked);
                CHECK.same("cell 0", x.cell(0, 0), 0);
                CHECK.same("cell 1", x.cell(1, 0), 8);
                CHECK.same("fixed", x.cell(1, 1), 1);
                CHECK.same("misfits", x.count(8), 2);
            });
        }
    }

    private static void cutRanges() {
        String p = "P6 cut: ";
        for (int wrong : new int[] {0, -1, 1000000000, Integer.MIN_VALUE, Integer.MAX_VALUE}) {
            CHECK.refused(p + "seed " + wrong, Check.ARGUMENT, TwoFacedTiles::new,
                x -> x.cut(wrong, 1));
        }
        for (int wrong : new int[] {0, -1, 10, Integer.MIN_VALUE, Integer.MAX_VALUE}) {
            CHECK.refused(p + "colors " + wrong, Check.ARGUMENT, TwoFacedTiles::new,
                x -> x.cut(1, wrong));
        }
        CHECK.refused(p + "seed and colors too small", Check.ARGUMENT, TwoFacedTiles::new,
            x -> x.cut(0, 0));
        CHECK.refused(p + "seed and colors too large", Check.ARGUMENT, TwoFacedTiles::new,
            x -> x.cut(1000000000, 10));
        cutOfTwo(p + "the least seed", 1, 9, 200, 2, 2, 200);
        cutOfTwo(p + "the highest seed", 999999999, 8, 200, 2, 2, 200);
        cutOfTwo(p + "the fewest colors", 98, 1, 100, 1, 1, 100);
        cutOfTwo(p + "the most colors", 78, 9, 900, 8, 9, 800);
    }

    /** Of 1 x 2: both faces of tile 0, then both of tile 1. */
    private static void cutOfTwo(String name, int seed, int colors, int... due) {
        CHECK.test(name, () -> {
            TwoFacedTiles x = Puzzles.withTiles(1, 2);
            CHECK.same("cut", x.cut(seed, colors), 2);
            for (int i = 0; i < 4; i++) {
                CHECK.same("face " + i % 2 + " of tile " + i / 2, x.tile(i / 2, i % 2), due[i]);
            }
        });
    }

    private static TwoFacedTiles beforeCut(int tiles) {
        TwoFacedTiles x = Puzzles.alike(2, 2, tiles, 4444, 4444);
        x.lay(3, 0);
        x.fix(3);
        x.setRule(2);
        x.append('~');
        x.cut(12345678, 9);
        return x;
    }

    private static void cutReplaces() {
        for (int tiles : new int[] {1, 4, 12}) {
            String p = "P6 cut, where there were " + tiles + " tiles: ";
            CHECK.test(p + "a tile for each cell, as on a new object", () -> {
                TwoFacedTiles x = beforeCut(tiles);
                TwoFacedTiles twin = new TwoFacedTiles();
                twin.cut(12345678, 9);
                CHECK.same("tiles", x.count(2), 4);
                for (int tile = 0; tile < 4; tile++) {
                    CHECK.same("face 0", x.tile(tile, 0), twin.tile(tile, 0));
                    CHECK.same("face 1", x.tile(tile, 1), twin.tile(tile, 1));
                }
            });
            CHECK.refused(p + "none more", Check.INDEX, () -> beforeCut(tiles),
                x -> x.tile(4, 0));
            CHECK.test(p + "none of them is laid", () -> {
                TwoFacedTiles x = beforeCut(tiles);
                CHECK.same("empty cells", x.count(3), 4);
                for (int tile = 0; tile < 4; tile++) {
                    CHECK.same("where", x.tile(tile, 2), -1);
                    CHECK.same("cell", x.cell(tile, 0), -1);
                }
            });
            CHECK.test(p + "nothing is fixed", () -> {
                TwoFacedTiles x = beforeCut(tiles);
                CHECK.same("fixed cells", x.count(4), 0);
                x.setRule(0);
                x.lay(3, 24);
                CHECK.same("the cell that was fixed", x.cell(3, 1), 0);
            });
            CHECK.test(p + "size, rule and buffer stay", () -> {
                TwoFacedTiles x = beforeCut(tiles);
                CHECK.same("rows", x.count(0), 2);
                CHECK.same("columns", x.count(1), 2);
                CHECK.same("rule", x.count(5), 2);
                CHECK.same("buffer", x.clearBuffer(), 1);
            });
        }
        Puzzles.eachSize((rows, columns) -> CHECK.test("P6 cut: " + rows + " x " + columns, () -> {
            TwoFacedTiles x = Puzzles.withTiles(rows, columns);
            x.setRule(2);
            CHECK.same("cut", x.cut(918273645, 9), rows * columns);
            for (int cell = 0; cell < rows * columns; cell++) {
                CHECK.same("lay of each in its cell", x.lay(cell, 8 * cell),
                    rows * columns - 1 - cell);
            }
        }));
    }

    private static void cutColors() {
        String p = "P6 cut: ";
        CHECK.test(p + "one cell has only rims", () -> {
            TwoFacedTiles x = Puzzles.withTiles(1, 1);
            x.cut(987654321, 9);
            CHECK.same("face 0", x.tile(0, 0), 0);
            CHECK.same("face 1", x.tile(0, 1), 0);
        });
        // Drawn are 2 to 9: right of cell 0, then its bottom, bottom of cell 1, right of cell 2.
        int[][] due = {{240, 53}, {62, 370}, {4800, 5009}, {6008, 7900}};
        for (int tile = 0; tile < 4; tile++) {
            int asked = tile;
            CHECK.test(p + "right before bottom, above before below, tile " + asked, () -> {
                TwoFacedTiles x = new TwoFacedTiles();
                x.cut(87654321, 9);
                CHECK.same("face 0", x.tile(asked, 0), due[asked][0]);
                CHECK.same("face 1", x.tile(asked, 1), due[asked][1]);
            });
        }
        CHECK.test(p + "a bottom row draws nothing at the bottom", () -> {
            TwoFacedTiles x = Puzzles.withTiles(1, 3);
            x.cut(4321, 9);
            CHECK.same("tile 0 above", x.tile(0, 0), 200);
            CHECK.same("tile 1 above", x.tile(1, 0), 402);
            CHECK.same("tile 1 below", x.tile(1, 1), 305);
            CHECK.same("tile 2 above", x.tile(2, 0), 4);
        });
        CHECK.test(p + "a right column draws nothing at the right", () -> {
            TwoFacedTiles x = Puzzles.withTiles(3, 1);
            x.cut(4321, 9);
            CHECK.same("tile 0 above", x.tile(0, 0), 20);
            CHECK.same("tile 1 above", x.tile(1, 0), 2040);
            CHECK.same("tile 1 below", x.tile(1, 1), 3050);
            CHECK.same("tile 2 above", x.tile(2, 0), 4000);
        });
    }

    private static void cutDigits() {
        String p = "P6 cut: ";
        cutOfTwo(p + "the last digit first", 51, 9, 200, 6, 2, 600);
        cutOfTwo(p + "one digit comes again", 7, 9, 800, 8, 8, 800);
        cutOfTwo(p + "a digit 0 at the end", 30, 9, 100, 4, 1, 400);
        cutOfTwo(p + "a digit 0 before it", 105, 9, 600, 1, 6, 100);
        cutOfTwo(p + "a digit as high as the colors wraps around", 5, 5, 100, 1, 1, 100);
        cutOfTwo(p + "a digit one lower is the highest color", 4, 5, 500, 5, 5, 500);
        cutOfTwo(p + "a digit twice as high as the colors", 8, 4, 100, 1, 1, 100);
        cutOfTwo(p + "digit 9 of 9 colors", 9, 9, 100, 1, 1, 100);
        cutOfTwo(p + "digit 8 of 9 colors", 8, 9, 900, 9, 9, 900);
        CHECK.test(p + "the digits come again between above and below", () -> {
            TwoFacedTiles x = Puzzles.withTiles(1, 3);
            // 3 2 1, and again 3: the colors are 4 and 3, then 2 and 4.
            x.cut(123, 9);
            CHECK.same("tile 1 above", x.tile(1, 0), 204);
            CHECK.same("tile 1 below", x.tile(1, 1), 304);
            CHECK.same("tile 2 below", x.tile(2, 1), 400);
        });
        CHECK.test(p + "nine digits come again and again", () -> {
            TwoFacedTiles x = Puzzles.withTiles(3, 4);
            x.cut(987654321, 9);
            // Of the 34 draws the last two, for the bottom row's last shared side, are 6 and 7.
            CHECK.same("tile 11 at the left above", x.tile(11, 0) % 10, 7);
            CHECK.same("tile 11 at the left below", x.tile(11, 1) / 100 % 10, 8);
        });
        CHECK.test(p + "a second cut begins with the last digit again", () -> {
            TwoFacedTiles x = Puzzles.withTiles(1, 2);
            x.cut(12345, 9);
            x.cut(12345, 9);
            CHECK.same("tile 0 above", x.tile(0, 0), 600);
        });
        CHECK.test(p + "a second cut has nothing of the first one", () -> {
            TwoFacedTiles x = Puzzles.withTiles(1, 2);
            x.cut(88, 9);
            x.cut(11, 9);
            CHECK.same("tile 0 above", x.tile(0, 0), 200);
            CHECK.same("tile 0 below", x.tile(0, 1), 2);
            CHECK.same("tile 1 above", x.tile(1, 0), 2);
            CHECK.same("tile 1 below", x.tile(1, 1), 200);
        });
    }
}
