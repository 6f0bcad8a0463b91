/**
 * A test for each case of each boundary that the document names for the promises 23 to 27; promise
 * 22 is asked in SearchEdgesTest.
 */
public final class OutlookEdgesTest {
    private static final Check CHECK = new Check();

    public static void main(String[] args) {
        hintNone();
        hintFewest();
        hintNumbers();
        startsNone();
        startsOneCell();
        startsTwoCells();
        startsTakesAllOff();
        startsSteps();
        whyRanges();
        whyEachReason();
        whyEarlierWithoutAFit();
        whyEarlierAtAnySide();
        fitting();
        digestOfStates();
        digestOfBuffers();
        CHECK.end();
    }

    private static TwoFacedTiles laid(TwoFacedTiles x, int... cellsAndPlacings) {
        for (int i = 0; i < cellsAndPlacings.length; i += 2) {
            x.lay(cellsAndPlacings[i], cellsAndPlacings[i + 1]);
        }
        return x;
    }

    /** The placings in all cells, from cell 0 on. */
    private static TwoFacedTiles filled(TwoFacedTiles x, int... placings) {
        for (int cell = 0; cell < placings.length; cell++) {
            x.lay(cell, placings[cell]);
        }
        return x;
    }

    private static TwoFacedTiles ruled(int rule, TwoFacedTiles x) {
        x.setRule(rule);
        return x;
    }

    private static TwoFacedTiles fixedIn(TwoFacedTiles x, int... cells) {
        for (int cell : cells) {
            x.fix(cell);
        }
        return x;
    }

    private static TwoFacedTiles taken(TwoFacedTiles x, int... cells) {
        for (int cell : cells) {
            x.take(cell);
        }
        return x;
    }

    private static void hint(String name, Check.Make make, int due) {
        CHECK.test("P23 hint: " + name, () -> {
            TwoFacedTiles x = make.make();
            CHECK.same("hint", x.hint(), due);
            CHECK.sameToTheOldestState(x, make.make());
        });
    }

    private static void hintNone() {
        hint("no tiles", TwoFacedTiles::new, -1);
        hint("no cell is empty", () -> Puzzles.full(2, 2), -1);
        hint("no cell is empty, though a tile is left", () -> {
            TwoFacedTiles x = Puzzles.full(1, 1);
            x.addTile(1, 1);
            return x;
        }, -1);
        hint("all tiles are laid", () -> laid(Puzzles.alike(2, 2, 1, 1, 1), 0, 0), -1);
        hint("nothing fits beside what lies",
            () -> laid(Puzzles.withTiles(1, 2, 1111, 1111, 2222, 2222), 0, 0), -1);
        hint("nothing fits at the rim", () -> ruled(1, Puzzles.alike(2, 2, 4, 1111, 1111)), -1);
    }

    private static void hintFewest() {
        hint("all cells have as many", () -> Puzzles.alike(3, 4, 2, 1, 2), 0);
        hint("all cells but the first have as many",
            () -> laid(Puzzles.alike(2, 2, 2, 1111, 1111), 0, 0), 108);
        // Two ways in cell 1 and two in cell 3, eight in cell 0.
        hint("two cells have the fewest", () -> laid(Puzzles.withTiles(1, 4,
            1111, 1111, 1222, 1333), 2, 0), 109);
        // At the right 1 is asked, which tile 1 has at three edges; at the left 2.
        hint("the last cell has the fewest", () -> laid(Puzzles.withTiles(1, 3,
            9192, 3333, 1112, 3333), 1, 2), 208);
        hint("the first cell has the fewest", () -> laid(Puzzles.withTiles(1, 3,
            9192, 3333, 1112, 3333), 1, 0), 10);
        hint("a cell without any does not count", () -> laid(Puzzles.withTiles(1, 3,
            1111, 1111, 2222, 2222), 0, 0), 208);
        hint("the first cell has none", () -> laid(Puzzles.withTiles(1, 4,
            1111, 1111, 2222, 2222), 1, 0), 308);
        hint("two cells have just one", () -> laid(Puzzles.withTiles(1, 4,
            5555, 1111, 1234, 5678), 2, 0), 113);
    }

    private static void hintNumbers() {
        hint("the first cell and the placing 0", () -> Puzzles.alike(1, 1, 1, 1, 1), 0);
        hint("the last of four cells", () -> taken(Puzzles.full(2, 2), 3), 324);
        hint("the last of twelve cells", () -> taken(Puzzles.full(3, 4), 11), 1188);
        hint("cell 11 and the placing 95", () -> {
            TwoFacedTiles x = Puzzles.alike(3, 4, 11, 5555, 1111);
            x.addTile(1231, 5578);
            return filled(x, 0, 8, 16, 24, 32, 40, 48, 56, 64, 72, 80);
        }, 1195);
    }

    private static void starts(String name, Check.Make make, int due) {
        CHECK.test("P24 starts: " + name, () -> {
            TwoFacedTiles x = make.make();
            CHECK.same("starts", x.starts(), due);
            CHECK.sameToTheOldestState(x, make.make());
        });
    }

    /** A search for two layings from the tiles in the cells of the mask alone. */
    private static void alone(String name, Check.Make make, int mask, int... due) {
        for (int i = 0; i < 3; i++) {
            int what = i;
            CHECK.test("P24 starts: " + name + ", mask " + mask + ", layings " + what, () -> {
                TwoFacedTiles x = make.make();
                for (int cell = 0; cell < x.count(0) * x.count(1); cell++) {
                    if ((mask >> cell & 1) == 0) {
                        x.take(cell);
                    }
                }
                CHECK.same("layings", x.layings(2, what), due[what]);
            });
        }
    }

    private static void startsNone() {
        starts("a new object", TwoFacedTiles::new, -1);
        starts("all cells are empty", () -> Puzzles.alike(2, 2, 4, 1111, 1111), -1);
        for (int i = 0; i < 4; i++) {
            int cell = i;
            starts("only cell " + cell + " is empty",
                () -> taken(Puzzles.full(2, 2), cell), -1);
        }
        starts("a cell is empty, though the rest is sure",
            () -> laid(Puzzles.withTiles(1, 2, 1234, 5678, 9992, 9899), 0, 0), -1);
        starts("three cells, of which three would do", () -> Puzzles.full(1, 3), -1);
        starts("twelve cells, all tiles alike", () -> Puzzles.full(3, 4), -1);
    }

    private static void startsOneCell() {
        starts("the only cell", () -> Puzzles.full(1, 1), 1);
        starts("the only cell, and twelve tiles",
            () -> laid(Puzzles.alike(1, 1, 12, 1, 1), 0, 95), 1);
        Check.Make each = () -> filled(Puzzles.withTiles(1, 2, 1234, 5678, 9992, 9899), 0, 8);
        starts("each of two would do: the least", each, 1);
        alone("each of two would do", each, 1, 1, 1, 0);
        alone("each of two would do", each, 2, 1, 1, 0);
        Check.Make second = () -> filled(Puzzles.withTiles(1, 2, 1345, 2678, 1111, 2222), 1, 8);
        starts("just the second of two would do", second, 2);
        alone("just the second of two would do", second, 1, 2, 2, 0);
        Check.Make first = () -> filled(Puzzles.withTiles(1, 2, 1111, 2222, 1345, 2678), 0, 11);
        starts("just the first of two would do", first, 1);
        alone("just the first of two would do", first, 2, 2, 2, 0);
        // With tile 0 or tile 1 alone the others can lie otherwise, both make tile 2 sure.
        Check.Make third = () -> filled(Puzzles.withTiles(1, 3,
            7128, 9999, 3261, 9999, 1532, 9999), 0, 8, 16);
        starts("one bit before two, though two are a lower number", third, 4);
        alone("one bit before two", third, 3, 1, 1, 0);
        // Sixteen ways are tried in cell 0, and beside just one of them another tile fits.
        alone("one bit before two", third, 4, 1, 17, 0);
    }

    private static void startsTwoCells() {
        starts("both of two cells", () -> Puzzles.full(1, 2), 3);
        // The middle one can turn, and the outer ones can change places around it.
        Check.Make middle = () -> filled(Puzzles.withTiles(1, 3,
            1345, 2678, 1111, 2222, 1456, 2678), 1, 8, 19);
        starts("two pairs would do: the least", middle, 3);
        alone("two pairs would do", middle, 6, 1, 1, 0);
        starts("two cells with one between them", () -> filled(Puzzles.withTiles(1, 3,
            2132, 9999, 1231, 9999, 1313, 9999), 0, 11, 16), 5);
        starts("the first and the last of twelve cells", () -> {
            TwoFacedTiles x = Puzzles.withTiles(3, 4);
            x.cut(636143908, 7);
            x.solve();
            return x;
        }, 2049);
    }

    private static void startsTakesAllOff() {
        starts("fixed ones are taken off, too",
            () -> fixedIn(Puzzles.full(1, 3), 0, 1, 2), -1);
        starts("fixed ones are taken off, though one of them does",
            () -> fixedIn(filled(Puzzles.withTiles(1, 2, 1111, 2222, 1345, 2678), 0, 11), 0, 1),
            1);
        starts("tiles that are not laid come in question", () -> {
            TwoFacedTiles x = filled(Puzzles.withTiles(1, 2, 1111, 2222, 1345, 2678), 0, 11);
            x.addTile(1999, 2999);
            return x;
        }, 3);
        // Tile 1 lies with face 1 up, what rule 1 does not let it any more; with face 0 up it fits.
        Check.Make other = () -> ruled(1,
            filled(Puzzles.withTiles(1, 2, 100, 0, 1, 1022), 0, 15));
        starts("another laying than that which lies", other, 1);
        CHECK.test("P24 starts: another laying than that which lies, which one", () -> {
            TwoFacedTiles x = other.make();
            CHECK.same("misfits", x.count(8), 1);
            x.take(1);
            CHECK.same("solve", x.solve(), 1);
            CHECK.same("cell 1", x.cell(1, 0), 8);
        });
        starts("the rule leaves no other laying than all cells",
            () -> ruled(2, Puzzles.full(1, 2)), 3);
    }

    /** These boards were looked for with other limits of steps, and asked with the Model, too. */
    private static void startsSteps() {
        Check.Make just = () -> filled(Puzzles.withTiles(2, 4,
            2223, 1331, 1332, 2213, 2113, 3221, 2133, 2122,
            3133, 1332, 1311, 3223, 1311, 3331, 1123, 1113), 0, 36, 12, 31, 23, 45, 50, 58);
        starts("one cell needs just 600 steps", just, 16);
        alone("one cell needs just 600 steps", just, 16, 1, 600, 0);
        Check.Make more = () -> filled(Puzzles.withTiles(2, 4,
            2221, 1331, 2111, 3222, 2231, 1122, 2312, 2122, 3331, 3313, 3123, 2133,
            1323, 3323, 2133, 3311, 1123, 3221, 1333, 1121, 3123, 1221),
            0, 14, 19, 43, 29, 65, 61, 73);
        starts("two cells would need 601 steps", more, -1);
        alone("two cells would need 601 steps", more, 144, 1, 600, 1);
        Check.Make one = () -> filled(Puzzles.withTiles(2, 3,
            2112, 1211, 1111, 1111, 3212, 1233, 1312, 3133, 3233, 3322, 2111, 2133, 3231, 1111),
            2, 36, 26, 51, 19, 42);
        starts("without any cell one is found, but the steps end it", one, 1);
        alone("without any cell one is found", one, 0, 1, 600, 1);
    }

    private static void whyRanges() {
        Check.Make make = () -> laid(Puzzles.alike(2, 2, 2, 1, 1), 0, 0);
        for (int cell : new int[] {-1, 4, 12, Integer.MIN_VALUE, Integer.MAX_VALUE}) {
            CHECK.refused("P25 why: cell " + cell, Check.INDEX, make, x -> x.why(cell, 8));
            CHECK.refused("P25 why: cell " + cell + " and no such tile", Check.INDEX, make,
                x -> x.why(cell, 16));
        }
        for (int placing : new int[] {-1, -8, 16, 96, Integer.MIN_VALUE, Integer.MAX_VALUE}) {
            CHECK.refused("P25 why: placing " + placing, Check.INDEX, make,
                x -> x.why(1, placing));
            CHECK.refused("P25 why: placing " + placing + " and a cell that is not empty",
                Check.INDEX, make, x -> x.why(0, placing));
        }
        CHECK.refused("P25 why: placing 0 of no tiles", Check.INDEX, TwoFacedTiles::new,
            x -> x.why(0, 0));
        why("the last cell and the highest placing", make, 3, 15, 0);
    }

    private static void why(String name, Check.Make make, int cell, int placing, int due) {
        CHECK.test("P25 why: " + name, () -> {
            TwoFacedTiles x = make.make();
            CHECK.same("why", x.why(cell, placing), due);
            CHECK.sameToTheOldestState(x, make.make());
        });
    }

    private static void whyEachReason() {
        Check.Make one = () -> laid(Puzzles.withTiles(1, 2, 1111, 2222, 1111, 2222,
            3111, 2222, 1111, 3222), 0, 0);
        why("possible", one, 1, 8, 0);
        why("the cell is not empty", one, 0, 8, 1);
        why("the cell is not empty, but fixed", () -> fixedIn(one.make(), 0), 0, 8, 1);
        why("the tile is laid", one, 1, 0, 2);
        why("the tile is laid and fixed", () -> fixedIn(one.make(), 0), 1, 0, 2);
        why("at a rim above", () -> ruled(1, Puzzles.withTiles(1, 1, 1000, 0)), 0, 0, 3);
        why("at a rim below with rule 1", () -> ruled(1, Puzzles.withTiles(1, 1, 0, 1000)), 0, 0,
            0);
        why("at a rim below with rule 2", () -> ruled(2, Puzzles.withTiles(1, 1, 0, 1000)), 0, 0,
            3);
        why("different above", one, 1, 19, 4);
        why("different below", one, 1, 27, 5);
        Check.Make zero = () -> laid(Puzzles.alike(1, 2, 2, 0, 0), 0, 0);
        why("0 with rule 0", zero, 1, 8, 0);
        why("0 with rule 1", () -> ruled(1, zero.make()), 1, 8, 6);
        why("0 with rule 2", () -> ruled(2, zero.make()), 1, 8, 6);
        Check.Make below = () -> laid(Puzzles.withTiles(1, 2, 100, 0, 1, 0), 0, 0);
        why("0 below with rule 1", () -> ruled(1, below.make()), 1, 8, 0);
        why("0 below with rule 2", () -> ruled(2, below.make()), 1, 8, 6);
    }

    /** Reasons 1 and 2 come before each other one. */
    private static void whyEarlierWithoutAFit() {
        why("not empty before laid", () -> Puzzles.full(1, 2), 0, 8, 1);
        why("not empty before at a rim", () -> ruled(1, oneAndFree(1111, 1111, 2222, 2222)), 0,
            16, 1);
        why("not empty before different above", () -> oneAndFree(1111, 1111, 2222, 1111), 0, 16,
            1);
        why("not empty before different below", () -> oneAndFree(1111, 1111, 1111, 2222), 0, 16,
            1);
        why("not empty before a forbidden 0", () -> ruled(1, oneAndFree(0, 0, 0, 0)), 0, 16, 1);
        why("laid before at a rim", () -> ruled(1, laidApart(1111, 1111)), 1, 8, 2);
        why("laid before different above", () -> laidApart(2222, 1111), 1, 8, 2);
        why("laid before different below", () -> laidApart(1111, 2222), 1, 8, 2);
        why("laid before a forbidden 0", () -> ruled(1, laid(Puzzles.alike(1, 4, 2, 0, 0),
            0, 0, 3, 8)), 1, 8, 2);
    }

    /** Two tiles lie side by side, and a third one is free. */
    private static TwoFacedTiles oneAndFree(int... faces) {
        TwoFacedTiles x = Puzzles.withTiles(1, 2, faces[0], faces[1], faces[0], faces[1],
            faces[2], faces[3]);
        return laid(x, 0, 0, 1, 8);
    }

    /** Tile 0 of ones lies in cell 0 of four, tile 1 in cell 3, where it does not touch it. */
    private static TwoFacedTiles laidApart(int face, int other) {
        return laid(Puzzles.withTiles(1, 4, 1111, 1111, face, other), 0, 0, 3, 8);
    }

    /** What a reason asks: the neighbor above and below, the tile's own above and below. */
    private static final int[][] COLORS = {
        {5, 6, 5, 6}, {}, {}, {}, {5, 6, 4, 6}, {5, 6, 5, 7}, {0, 6, 0, 6}};

    private static void whyEarlierAtAnySide() {
        String[] names = {"fit", "", "", "at a rim", "different above", "different below",
            "a forbidden 0"};
        for (int i = 4; i <= 6; i++) {
            int later = i;
            why("at a rim at the top before " + names[later] + " at the bottom",
                () -> rimAnd(1, 0, 2, later), 1, 8, 3);
            why("at a rim at the left before " + names[later] + " at the top",
                () -> rimAnd(3, 3, 0, later), 3, 8, 3);
            for (int j = later; j <= 6; j++) {
                int last = j;
                String both = names[later] + " and " + names[last];
                why(both + ", the first one at the top", () -> twoSides(later, last), 4, 16,
                    later);
                why(both + ", the first one at the left", () -> twoSides(last, later), 4, 16,
                    later);
            }
            why("just " + names[later] + " at the top", () -> twoSides(later, 0), 4, 16, later);
            why("just " + names[later] + " at the left", () -> twoSides(0, later), 4, 16, later);
        }
    }

    /** A reason at a side of a cell of 3 x 3 beside cell 4 or a corner, and one at its rim. */
    private static TwoFacedTiles rimAnd(int cell, int rimSide, int side, int reason) {
        int[] colors = COLORS[reason];
        int[] above = {9, 9, 9, 9};
        int[] below = {9, 9, 9, 9};
        above[side] = colors[2];
        below[side] = colors[3];
        above[rimSide] = 1;
        TwoFacedTiles x = Puzzles.withTiles(3, 3, 1111 * colors[0], 1111 * colors[1],
            front(above), back(below));
        x.lay(side == 2 ? cell + 3 : cell - 3, 0);
        return ruled(1, x);
    }

    /** For cell 4 of 3 x 3: a reason at the top and one at the left; with 0 it fits there. */
    private static TwoFacedTiles twoSides(int top, int left) {
        int[] up = COLORS[top];
        int[] beside = COLORS[left];
        TwoFacedTiles x = Puzzles.withTiles(3, 3, 1111 * up[0], 1111 * up[1],
            1111 * beside[0], 1111 * beside[1],
            front(up[2], 9, 9, beside[2]), back(up[3], 9, 9, beside[3]));
        return ruled(1, laid(x, 1, 0, 3, 8));
    }

    private static int front(int... sides) {
        return 1000 * sides[0] + 100 * sides[1] + 10 * sides[2] + sides[3];
    }

    private static int back(int... sides) {
        return front(sides[0], sides[3], sides[2], sides[1]);
    }

    private static void fits(String name, Check.Make make) {
        CHECK.test("P26 fitting: " + name,
            () -> CHECK.sameDouble("fitting", make.make().fitting(), 1.0));
    }

    /** Tiles only lie where they fit, so that no other part than 1.0 can come. */
    private static void fitting() {
        fits("no tiles", TwoFacedTiles::new);
        fits("none is laid", () -> Puzzles.alike(2, 2, 4, 1, 1));
        fits("one is laid", () -> laid(Puzzles.alike(2, 2, 4, 1, 1), 0, 0));
        fits("two are laid at a corner", () -> laid(Puzzles.alike(2, 2, 4, 1, 1), 0, 0, 3, 8));
        fits("one pair", () -> Puzzles.full(1, 2));
        fits("seventeen pairs", () -> Puzzles.full(3, 4));
        fits("one pair that the rule forbids", () -> ruled(2, Puzzles.full(1, 2)));
    }

    private static void digest(String name, Check.Make make, String buffer) {
        CHECK.test("P27 digest: " + name, () -> {
            TwoFacedTiles x = make.make();
            Puzzles.write(x, buffer);
            CHECK.same("digest", x.digest(), hashOf(x, buffer));
            CHECK.same("digest again", x.digest(), hashOf(x, buffer));
        });
    }

    private static final class Hash {
        private long hash = 2137;

        void add(long value) {
            hash = 31 * hash + value;
        }
    }

    private static long hashOf(TwoFacedTiles x, String buffer) {
        Hash hash = new Hash();
        for (int what = 0; what <= 9; what++) {
            hash.add(x.count(what));
        }
        for (int cell = 0; cell < x.count(0) * x.count(1); cell++) {
            for (int what = 0; what <= 3; what++) {
                hash.add(x.cell(cell, what));
            }
            for (int i = 0; i < 8; i++) {
                hash.add(x.color(cell, i % 4, i >= 4));
            }
        }
        for (int tile = 0; tile < x.count(2); tile++) {
            for (int what = 0; what <= 3; what++) {
                hash.add(x.tile(tile, what));
            }
        }
        for (int what = 0; what <= 2; what++) {
            hash.add(x.layings(3, what));
        }
        hash.add(x.hint());
        hash.add(Double.doubleToLongBits(x.fitting()));
        hash.add(buffer.length());
        for (int i = 0; i < buffer.length(); i++) {
            hash.add(buffer.charAt(i));
        }
        return hash.hash;
    }

    private static void digestOfStates() {
        digest("a new object", TwoFacedTiles::new, "");
        digest("one cell, no tiles", () -> Puzzles.withTiles(1, 1), "");
        digest("one cell, one tile to lay", () -> Puzzles.withTiles(1, 1, 700, 1111), "");
        digest("one cell, one tile laid", () -> Puzzles.full(1, 1), "");
        digest("twelve tiles, none laid", () -> Puzzles.alike(3, 4, 12, 1234, 5678), "");
        digest("twelve tiles laid", () -> Puzzles.full(3, 4), "");
        digest("turned over and fixed", () -> {
            TwoFacedTiles x = fixedIn(filled(Puzzles.withTiles(1, 2, 1234, 5678, 9992, 9899), 0,
                8), 1);
            x.turnOver();
            return x;
        }, "");
        digest("what lies does not fit", () -> ruled(2, Puzzles.full(2, 3)), "");
        digest("the steps end the search", () -> Puzzles.alike(3, 4, 11, 1111, 1111), "");
        digest("two layings of three", () -> laid(Puzzles.withTiles(1, 2,
            1111, 3333, 2112, 3333), 0, 0), "");
        digest("tiles that look like others", () -> Puzzles.withTiles(2, 2,
            1, 2, 1234, 5678, 4123, 6785, 5678, 1234), "");
        digest("a cut board", () -> {
            TwoFacedTiles x = Puzzles.withTiles(3, 3);
            x.cut(987654321, 9);
            return laid(x, 4, 32, 0, 0);
        }, "");
    }

    private static void digestOfBuffers() {
        digest("one character", TwoFacedTiles::new, "1");
        digest("the lowest and the highest character", TwoFacedTiles::new, "!~");
        digest("60 characters", () -> Puzzles.full(2, 2), "1234/5678;".repeat(6));
        digest("a buffer after an error", TwoFacedTiles::new, "x1234/5678");
        CHECK.test("P27 digest: a cleared buffer counts no more", () -> {
            TwoFacedTiles x = Puzzles.written("123");
            x.clearBuffer();
            CHECK.same("digest", x.digest(), new TwoFacedTiles().digest());
        });
    }
}
