/**
 * A test for each case of the document's sentences about the search, and of promise 22's
 * boundaries. Steps that are more than a few were counted with the Model, too.
 */
public final class SearchEdgesTest {
    private static final Check CHECK = new Check();

    public static void main(String[] args) {
        orderOfCells();
        orderOfPlacings();
        goesBack();
        countsSteps();
        endsWhenFound();
        endsWithNothingMore();
        endsAtSixHundred();
        beginsFromWhatLies();
        noCellIsEmpty();
        ranges();
        changesNothing();
        CHECK.end();
    }

    /** What a search for so many layings finds, its steps, and whether these end it. */
    private static void search(String name, Check.Make make, int most, int... due) {
        String[] told = {"found", "steps", "ended by its steps"};
        for (int what = 0; what < 3; what++) {
            int asked = what;
            CHECK.test("T search: " + name + ", " + told[asked],
                () -> CHECK.same("layings", make.make().layings(most, asked), due[asked]));
        }
    }

    private static void orderOfCells() {
        CHECK.test("T search: ascending cells", () -> {
            TwoFacedTiles x = Puzzles.alike(3, 4, 12, 1111, 1111);
            x.solve();
            for (int cell = 0; cell < 12; cell++) {
                CHECK.same("in cell " + cell, x.cell(cell, 0), 8 * cell);
            }
        });
        CHECK.test("T search: ascending cells, those that are not empty are passed over", () -> {
            TwoFacedTiles x = Puzzles.alike(1, 4, 4, 1111, 1111);
            x.lay(0, 24);
            x.lay(2, 0);
            x.solve();
            CHECK.same("in cell 1", x.cell(1, 0), 8);
            CHECK.same("in cell 3", x.cell(3, 0), 16);
        });
        CHECK.test("T search: the last cell is not empty", () -> {
            TwoFacedTiles x = Puzzles.alike(1, 3, 3, 1111, 1111);
            x.lay(2, 0);
            x.solve();
            CHECK.same("in cell 0", x.cell(0, 0), 8);
            CHECK.same("in cell 1", x.cell(1, 0), 16);
        });
        CHECK.test("T search: a tile that does not fit is passed over", () -> {
            TwoFacedTiles x = Puzzles.withTiles(1, 2, 1111, 1111, 2222, 2222, 1111, 1111);
            x.solve();
            CHECK.same("in cell 0", x.cell(0, 0), 0);
            CHECK.same("in cell 1", x.cell(1, 0), 16);
        });
    }

    /** In cell 1 just one way of tile 1 fits: 1234/5678 shows each pair at the left but once. */
    private static TwoFacedTiles oneWay(int way) {
        int[] above = {4, 3, 2, 1, 8, 7, 6, 5};
        int[] below = {6, 7, 8, 5, 2, 3, 4, 1};
        TwoFacedTiles x = Puzzles.withTiles(1, 2, 1111 * above[way], 1111 * below[way],
            1234, 5678);
        x.lay(0, 0);
        return x;
    }

    private static void orderOfPlacings() {
        for (int i = 0; i < 8; i++) {
            int way = i;
            CHECK.test("T search: way " + way + " alone is possible", () -> {
                TwoFacedTiles x = oneWay(way);
                CHECK.same("solve", x.solve(), 1);
                CHECK.same("in cell 1", x.cell(1, 0), 8 + way);
            });
            search("way " + way + " alone is possible", () -> oneWay(way), 50, 1, 1, 0);
        }
        // Of face 0 the right and the bottom edge are 1: at the left after turn 2 and turn 1.
        Check.Make twoWays = () -> {
            TwoFacedTiles x = Puzzles.withTiles(1, 2, 1111, 3333, 2112, 3333);
            x.lay(0, 0);
            return x;
        };
        search("two ways are possible", twoWays, 50, 2, 2, 0);
        CHECK.test("T search: the lower one of two ways", () -> {
            TwoFacedTiles x = twoWays.make();
            x.solve();
            CHECK.same("in cell 1", x.cell(1, 0), 9);
        });
    }

    private static void goesBack() {
        Check.Make one = () -> Puzzles.withTiles(1, 2, 1111, 1111, 2222, 2222, 2222, 2222);
        // Eight ways of tile 0 with nothing beside them, then tile 1 and tile 2.
        search("back from cell 1", one, 1, 1, 10, 0);
        CHECK.test("T search: back from cell 1, the laying", () -> {
            TwoFacedTiles x = one.make();
            CHECK.same("solve", x.solve(), 2);
            CHECK.same("in cell 0", x.cell(0, 0), 8);
            CHECK.same("in cell 1", x.cell(1, 0), 16);
            CHECK.same("the one that was tried", x.tile(0, 2), -1);
        });
        // Tiles 0 and 1 in both orders, 8 + 64 steps each, and none for cell 2; then 2, 3, 4.
        Check.Make two = () -> Puzzles.withTiles(1, 3,
            1111, 1111, 1111, 1111, 2222, 2222, 2222, 2222, 2222, 2222);
        search("back from cell 2 to cell 0", two, 1, 1, 147, 0);
        CHECK.test("T search: back from cell 2 to cell 0, the laying", () -> {
            TwoFacedTiles x = two.make();
            CHECK.same("solve", x.solve(), 3);
            CHECK.same("in cell 0", x.cell(0, 0), 16);
            CHECK.same("in cell 2", x.cell(2, 0), 32);
        });
    }

    private static void countsSteps() {
        search("no tiles", TwoFacedTiles::new, 50, 0, 0, 0);
        search("no placing is possible", () -> {
            TwoFacedTiles x = Puzzles.alike(1, 1, 12, 1, 1);
            x.setRule(2);
            return x;
        }, 50, 0, 0, 0);
        search("what is not possible is no step", () -> {
            TwoFacedTiles x = Puzzles.withTiles(1, 2, 1111, 1111, 2222, 2222, 1111, 1111);
            x.lay(0, 0);
            return x;
        }, 1, 1, 1, 0);
        search("what is tried in vain is a step", () -> Puzzles.withTiles(1, 2,
            1111, 1111, 2222, 2222), 50, 0, 16, 0);
        search("tiles that lie are no steps", () -> {
            TwoFacedTiles x = Puzzles.alike(1, 2, 2, 1111, 1111);
            x.lay(1, 0);
            return x;
        }, 1, 1, 1, 0);
        search("just the four ways of one face", () -> {
            TwoFacedTiles x = Puzzles.alike(1, 1, 1, 0, 1111);
            x.setRule(1);
            return x;
        }, 50, 4, 4, 0);
    }

    private static void endsWhenFound() {
        Check.Make one = () -> Puzzles.alike(1, 1, 1, 1, 1);
        search("one of eight", one, 1, 1, 1, 0);
        search("seven of eight", one, 7, 7, 7, 0);
        search("eight of eight", one, 8, 8, 8, 0);
        search("nine of eight", one, 9, 8, 8, 0);
        Check.Make twelve = () -> Puzzles.alike(1, 1, 12, 1, 1);
        search("49 of 96", twelve, 49, 49, 49, 0);
        search("50 of 96", twelve, 50, 50, 50, 0);
    }

    private static void endsWithNothingMore() {
        search("a tile too few", () -> Puzzles.alike(1, 2, 1, 0, 0), 50, 0, 8, 0);
        search("two tiles for three cells", () -> Puzzles.alike(1, 3, 2, 0, 0), 50, 0, 144, 0);
        search("one cell, all tiles tried", () -> Puzzles.alike(1, 1, 6, 0, 0), 50, 48, 48, 0);
    }

    private static void endsAtSixHundred() {
        search("600 steps and nothing more to try", () -> Puzzles.withTiles(1, 4,
            1111, 1121, 1111, 1111, 1122, 1212), 50, 0, 600, 0);
        Check.Make five = () -> Puzzles.withTiles(1, 4,
            2112, 2111, 2222, 1111, 1111, 1111, 1111, 1111);
        search("the fifth is found by step 600, of five", five, 5, 5, 600, 0);
        search("the fifth is found by step 600, of six", five, 6, 5, 600, 1);
        search("the fifth is found by step 600, of four", five, 4, 4, 599, 0);
        search("the first is found by step 600", () -> Puzzles.withTiles(1, 4,
            2112, 1111, 1111, 1111, 2222, 1222, 1111, 1111), 1, 1, 600, 0);
        search("the first would be found by step 601", () -> Puzzles.withTiles(1, 4,
            2112, 1111, 1221, 2212, 1111, 1111, 1111, 1111), 1, 0, 600, 1);
        search("far more than 600", () -> Puzzles.alike(3, 4, 11, 1111, 1111), 1, 0, 600, 1);
    }

    private static void beginsFromWhatLies() {
        search("what lies leaves one tile", () -> {
            TwoFacedTiles x = Puzzles.alike(1, 2, 2, 1111, 2222);
            x.lay(1, 8);
            return x;
        }, 50, 4, 4, 0);
        search("a neighbor behind is asked", () -> {
            TwoFacedTiles x = Puzzles.withTiles(1, 3, 2222, 2222, 1111, 1111, 1111, 1111);
            x.lay(2, 0);
            return x;
        }, 50, 0, 16, 0);
        search("a neighbor under it is asked", () -> {
            TwoFacedTiles x = Puzzles.withTiles(2, 1, 2222, 2222, 1111, 1111);
            x.lay(1, 0);
            return x;
        }, 50, 0, 0, 0);
        search("what lies at the rim need not fit", () -> {
            TwoFacedTiles x = Puzzles.withTiles(1, 2, 1200, 0, 2, 0);
            x.lay(0, 0);
            x.setRule(1);
            return x;
        }, 50, 1, 1, 0);
        search("what lies side by side need not fit", () -> {
            TwoFacedTiles x = Puzzles.withTiles(1, 3, 0, 0, 100, 0, 1, 0);
            x.lay(0, 0);
            x.lay(1, 8);
            x.setRule(1);
            return x;
        }, 50, 1, 1, 0);
    }

    private static void noCellIsEmpty() {
        Check.Make full = () -> Puzzles.full(2, 2);
        search("no cell is empty, of one", full, 1, 1, 0, 0);
        search("no cell is empty, of 50", full, 50, 1, 0, 0);
        search("no cell is empty, and what lies does not fit", () -> {
            TwoFacedTiles x = Puzzles.full(2, 2);
            x.setRule(2);
            return x;
        }, 50, 1, 0, 0);
        search("no cell is empty, more tiles are there", () -> {
            TwoFacedTiles x = Puzzles.full(1, 1);
            x.addTile(1, 1);
            return x;
        }, 50, 1, 0, 0);
    }

    private static void ranges() {
        String p = "P22 layings: ";
        Check.Make make = () -> Puzzles.alike(1, 2, 2, 1111, 1111);
        for (int most : new int[] {0, -1, 51, Integer.MIN_VALUE, Integer.MAX_VALUE}) {
            CHECK.refused(p + "most " + most, Check.ARGUMENT, make, x -> x.layings(most, 0));
            CHECK.refused(p + "most " + most + " and what 3", Check.ARGUMENT, make,
                x -> x.layings(most, 3));
        }
        for (int what : new int[] {-1, 3, Integer.MIN_VALUE, Integer.MAX_VALUE}) {
            CHECK.refused(p + "what " + what, Check.ARGUMENT, make, x -> x.layings(50, what));
        }
        CHECK.test(p + "most 1", () -> CHECK.same("layings", make.make().layings(1, 0), 1));
        CHECK.test(p + "most 50", () -> CHECK.same("layings", make.make().layings(50, 0), 50));
        CHECK.test(p + "what 0", () -> CHECK.same("layings", make.make().layings(3, 0), 3));
        CHECK.test(p + "what 1", () -> CHECK.same("layings", make.make().layings(3, 1), 4));
        CHECK.test(p + "what 2", () -> CHECK.same("layings", make.make().layings(3, 2), 0));
    }

    private static void changesNothing() {
        CHECK.test("P22 layings: nothing is changed", () -> {
            TwoFacedTiles x = Puzzles.alike(1, 3, 3, 1111, 1111);
            x.lay(1, 8);
            long before = x.digest();
            x.layings(50, 0);
            CHECK.same("digest", x.digest(), before);
            CHECK.same("where tile 1 is", x.tile(1, 2), 1);
            CHECK.same("where tile 0 is", x.tile(0, 2), -1);
        });
    }
}
