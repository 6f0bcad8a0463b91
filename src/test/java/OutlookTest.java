import java.lang.reflect.Method;

/** Promises 22 to 27: layings, hint, starts, why, fitting, digest. */
public final class OutlookTest {
    private static final long ONE = 0x3FF0000000000000L;
    private static final Check CHECK = new Check();

    public static void main(String[] args) throws ReflectiveOperationException {
        layingsOfOneTile();
        layingsEndWhenFound();
        layingsEndWithSteps();
        layingsEndJustAtTheLastStep();
        layingsFromWhatLies();
        layingsRefuses();
        hintTakesTheLowestCell();
        hintTakesTheFewest();
        hintWithoutAny();
        startsWithoutFullBoard();
        startsWithOneCell();
        startsWithTwoCells();
        startsWithTooManySteps();
        whyTellsEachReason();
        whyTellsTheFirstReason();
        whyRefuses();
        fitting();
        digestOfNewObject();
        digestOfLaidBoard();
        bitsOfDoubles();
        CHECK.end();
    }

    private static void search(String when, TwoFacedTiles x, int most, int... due) {
        long before = x.digest();
        for (int what = 0; what < 3; what++) {
            CHECK.same(when + ": layings(" + most + ", " + what + ")", x.layings(most, what),
                due[what]);
        }
        CHECK.same(when + " changes nothing", x.digest(), before);
    }

    private static void layingsOfOneTile() {
        TwoFacedTiles x = Puzzles.alike(1, 1, 1, 0, 1111);
        search("all ways", x, 50, 8, 8, 0);
        search("some ways", x, 3, 3, 3, 0);
        search("one way", x, 1, 1, 1, 0);
        x.setRule(1);
        search("the face 0", x, 50, 4, 4, 0);
        x.setRule(2);
        search("no way", x, 50, 0, 0, 0);
        search("no tile", Puzzles.alike(1, 1, 0, 0, 0), 50, 0, 0, 0);
        search("too few tiles", Puzzles.alike(1, 2, 1, 0, 0), 50, 0, 8, 0);
        search("too few for three", Puzzles.alike(1, 3, 2, 0, 0), 50, 0, 144, 0);
    }

    private static void layingsEndWhenFound() {
        TwoFacedTiles x = Puzzles.alike(3, 4, 12, 1111, 1111);
        search("the first", x, 1, 1, 12, 0);
        search("the ways of the last tile", x, 8, 8, 19, 0);
        search("one tile back", x, 9, 9, 21, 0);
        // Ten cells, then six times one step and eight layings, then one step and two layings.
        search("fifty", x, 50, 50, 67, 0);
    }

    private static void layingsEndWithSteps() {
        search("three of four", Puzzles.alike(1, 4, 3, 1111, 1111), 1, 0, 600, 1);
        search("one cell remains", Puzzles.alike(3, 4, 11, 1111, 1111), 50, 0, 600, 1);
    }

    private static void layingsEndJustAtTheLastStep() {
        TwoFacedTiles x = Puzzles.withTiles(1, 4, 1111, 1121, 1111, 1111, 1122, 1212);
        search("600 steps and nothing more to try", x, 50, 0, 600, 0);
        TwoFacedTiles y = Puzzles.withTiles(1, 4, 2112, 2111, 2222, 1111, 1111, 1111, 1111, 1111);
        search("the last one found at step 600", y, 5, 5, 600, 0);
        search("one more looked for", y, 6, 5, 600, 1);
    }

    private static void layingsFromWhatLies() {
        TwoFacedTiles x = Puzzles.alike(1, 2, 3, 1111, 2222);
        // Each of 24 ways in cell 0 leaves eight ways in cell 1, with the same face up.
        search("empty", x, 50, 50, 57, 0);
        x.lay(1, 8);
        search("one lies", x, 50, 8, 8, 0);
        x.lay(0, 1);
        search("no cell is empty", x, 50, 1, 0, 0);
        search("no cell is empty, one", x, 1, 1, 0, 0);
        x.setRule(2);
        search("what lies need not fit", x, 50, 1, 0, 0);
    }

    private static void layingsRefuses() {
        TwoFacedTiles x = new TwoFacedTiles();
        int[][] wrong = {{0, 0}, {51, 0}, {-1, 0}, {1, -1}, {1, 3}, {0, 3}, {50, 3},
            {Integer.MIN_VALUE, 1}, {Integer.MAX_VALUE, 1}, {1, Integer.MIN_VALUE},
            {1, Integer.MAX_VALUE}};
        for (int[] what : wrong) {
            CHECK.refusesArgument("layings out of range", x, () -> x.layings(what[0], what[1]));
        }
    }

    private static void hintTakesTheLowestCell() {
        TwoFacedTiles x = Puzzles.withTiles(2, 2, 1234, 5678);
        CHECK.same("all cells alike", x.hint(), 0);
        TwoFacedTiles y = Puzzles.withTiles(1, 4, 1111, 1111, 1222, 1333);
        y.lay(2, 0);
        // In the cells 1 and 3 two ways are possible each, in cell 0 eight.
        CHECK.same("the lower one of two", y.hint(), 109);
        CHECK.same("nothing is changed", y.count(3), 3);
    }

    private static void hintTakesTheFewest() {
        TwoFacedTiles x = Puzzles.withTiles(1, 4, 1111, 1111, 1222, 1333);
        x.lay(3, 0);
        CHECK.same("the cell next to what lies", x.hint(), 209);
        TwoFacedTiles y = Puzzles.withTiles(1, 4, 1111, 1111, 2222, 2222);
        y.lay(0, 0);
        CHECK.same("not the cell without any", y.hint(), 208);
        TwoFacedTiles z = Puzzles.withTiles(3, 4, 5555, 0, 1111, 0);
        z.setRule(1);
        // At the rim only face 1 is possible, in the cells 5 and 6 both faces of both tiles.
        CHECK.same("at the rim", z.hint(), 4);
    }

    private static void hintWithoutAny() {
        TwoFacedTiles x = new TwoFacedTiles();
        CHECK.same("no tiles", x.hint(), -1);
        TwoFacedTiles y = Puzzles.withTiles(1, 2, 1111, 1111, 2222, 2222);
        y.lay(0, 0);
        CHECK.same("nothing fits", y.hint(), -1);
        TwoFacedTiles z = Puzzles.withTiles(1, 1, 0, 0, 0, 0);
        z.lay(0, 2);
        CHECK.same("no cell is empty", z.hint(), -1);
    }

    private static void starts(String when, TwoFacedTiles x, int due) {
        long before = x.digest();
        CHECK.same("starts, " + when, x.starts(), due);
        CHECK.same("starts, " + when + " changes nothing", x.digest(), before);
    }

    private static void startsWithoutFullBoard() {
        starts("new", new TwoFacedTiles(), -1);
        TwoFacedTiles x = Puzzles.withTiles(1, 2, 0, 0);
        x.lay(0, 0);
        starts("a cell is empty", x, -1);
        TwoFacedTiles y = Puzzles.withTiles(1, 2, 1111, 2222, 1345, 2678);
        y.lay(0, 0);
        starts("a cell is empty, though the rest is sure", y, -1);
    }

    private static void startsWithOneCell() {
        TwoFacedTiles x = Puzzles.withTiles(1, 1, 1234, 5678);
        x.lay(0, 5);
        starts("eight ways for one tile", x, 1);

        TwoFacedTiles y = Puzzles.withTiles(1, 2, 1111, 2222, 1345, 2678);
        y.lay(0, 0);
        y.lay(1, 11);
        starts("the second tile has one way", y, 1);
        y.fix(0);
        starts("the fixed one is taken off, too", y, 1);
        y.addTile(1999, 2999);
        starts("two tiles for one cell", y, 3);
        y.dropTile();
        y.fix(0);
        y.turnOver();
        starts("the first tile has one way", y, 2);

        TwoFacedTiles z = Puzzles.withTiles(1, 2, 1111, 2222, 1345, 2678);
        z.lay(1, 0);
        z.lay(0, 9);
        starts("the other cell", z, 2);
        z.setRule(2);
        starts("a full board is asked for no rule", z, 3);
    }

    private static void startsWithTwoCells() {
        TwoFacedTiles x = Puzzles.alike(1, 2, 2, 1111, 1111);
        x.solve();
        starts("all cells", x, 3);
        TwoFacedTiles y = Puzzles.alike(1, 3, 3, 1111, 1111);
        y.solve();
        starts("three cells would do", y, -1);
        // The middle one can turn in four ways, and the outer ones can change places around it.
        TwoFacedTiles z = Puzzles.withTiles(1, 3, 1345, 2678, 1111, 2222, 1456, 2678);
        z.solve();
        starts("one outer one and the middle one", z, 3);
    }

    private static void startsWithTooManySteps() {
        TwoFacedTiles x = new TwoFacedTiles();
        x.begin(3, 4);
        x.cut(918273645, 8);
        x.solve();
        starts("one tile of twelve", x, 32);
    }

    private static void whyTellsEachReason() {
        TwoFacedTiles x = Puzzles.withTiles(1, 2, 1111, 2222, 1111, 2222, 1111, 3333, 3333, 2222);
        CHECK.same("possible", x.why(0, 0), 0);
        x.lay(0, 0);
        CHECK.same("not empty", x.why(0, 8), 1);
        CHECK.same("laid", x.why(1, 1), 2);
        CHECK.same("possible beside", x.why(1, 8), 0);
        CHECK.same("different above", x.why(1, 24), 4);
        CHECK.same("different below", x.why(1, 16), 5);
        CHECK.same("both different", x.why(1, 12), 4);
        x.setRule(1);
        CHECK.same("at the rim above", x.why(1, 8), 3);

        TwoFacedTiles y = Puzzles.withTiles(1, 2, 100, 0, 1, 0);
        y.lay(0, 0);
        CHECK.same("0 below", y.why(1, 8), 0);
        y.setRule(1);
        CHECK.same("0 below with rule 1", y.why(1, 8), 0);
        y.setRule(2);
        CHECK.same("0 below with rule 2", y.why(1, 8), 6);
        TwoFacedTiles z = Puzzles.withTiles(1, 2, 0, 0, 0, 0, 0, 1000);
        z.lay(0, 0);
        z.setRule(1);
        CHECK.same("0 above with rule 1", z.why(1, 8), 6);
        CHECK.same("rim below with rule 1", z.why(1, 16), 6);
        z.setRule(2);
        CHECK.same("rim below with rule 2", z.why(1, 16), 3);
        CHECK.same("nothing is changed", z.count(3), 1);
    }

    private static void whyTellsTheFirstReason() {
        TwoFacedTiles x = Puzzles.withTiles(2, 2, 1111, 2222, 1111, 3333, 9915, 9229, 9951, 9739);
        x.lay(0, 0);
        x.lay(3, 8);
        CHECK.same("not empty before laid", x.why(0, 8), 1);
        CHECK.same("not empty before itself", x.why(0, 0), 1);
        CHECK.same("below at the bottom, above at the left", x.why(1, 16), 4);
        CHECK.same("above at the bottom, below at the left", x.why(1, 24), 4);
        x.setRule(1);
        CHECK.same("laid before rim", x.why(1, 0), 2);
        CHECK.same("rim before above", x.why(1, 16), 3);

        TwoFacedTiles y = Puzzles.withTiles(2, 2, 0, 0, 1000, 2000, 10, 50, 10, 20);
        y.lay(0, 0);
        y.lay(3, 8);
        y.setRule(1);
        CHECK.same("below at the bottom before 0 at the left", y.why(1, 16), 5);
        CHECK.same("0 at the left", y.why(1, 24), 6);
        y.setRule(0);
        CHECK.same("0 at the left without a rule", y.why(1, 24), 0);
    }

    private static void whyRefuses() {
        TwoFacedTiles x = new TwoFacedTiles();
        CHECK.refusesIndex("no tiles", x, () -> x.why(0, 0));
        x.addTile(0, 0);
        for (int wrong : new int[] {-1, 8, Integer.MIN_VALUE, Integer.MAX_VALUE}) {
            CHECK.refusesIndex("no such cell", x, () -> x.why(wrong, 0));
            CHECK.refusesIndex("no such tile", x, () -> x.why(0, wrong));
        }
        CHECK.refusesIndex("the cell beyond", x, () -> x.why(4, 7));
        x.lay(0, 0);
        CHECK.refusesIndex("no such tile, cell not empty", x, () -> x.why(0, 8));
    }

    private static void fitting() {
        TwoFacedTiles x = new TwoFacedTiles();
        CHECK.sameDouble("no pairs, new", x.fitting(), 1.0);
        x.cut(123, 4);
        x.lay(0, 0);
        CHECK.sameDouble("no pairs, one tile", x.fitting(), 1.0);
        x.lay(3, 24);
        CHECK.sameDouble("no pairs, at the corner", x.fitting(), 1.0);
        x.lay(1, 8);
        // Tiles are laid only where they fit, and nothing parts them: what lies is all alike.
        CHECK.sameDouble("two pairs", x.fitting(), 1.0);
        x.setRule(2);
        CHECK.sameDouble("the rule does not matter", x.fitting(), 1.0);
        x.turnOver();
        CHECK.sameDouble("turned over", x.fitting(), 1.0);
    }

    private static long hash(long... values) {
        long hash = 2137;
        for (long value : values) {
            hash = 31 * hash + value;
        }
        return hash;
    }

    private static void digestOfNewObject() {
        TwoFacedTiles x = new TwoFacedTiles();
        CHECK.same("digest of a new object", x.digest(), hash(
            2, 2, 0, 4, 0, 0, 0, 0, 0, 0,
            -1, 0, 0, -1, -1, -1, -1, -1, -1, -1, -1, -1,
            -1, 0, 0, -1, -1, -1, -1, -1, -1, -1, -1, -1,
            -1, 0, 0, -1, -1, -1, -1, -1, -1, -1, -1, -1,
            -1, 0, 0, -1, -1, -1, -1, -1, -1, -1, -1, -1,
            0, 0, 0, -1, ONE, 0));
    }

    private static void digestOfLaidBoard() {
        TwoFacedTiles x = Puzzles.withTiles(1, 2, 1234, 5678, 5, 9000);
        x.lay(0, 1);
        x.fix(0);
        x.append('a');
        x.append('~');
        x.setRule(1);
        CHECK.same("digest of a laid board", x.digest(), hash(
            1, 2, 2, 1, 1, 1, 0, 0, 1, 6,
            1, 1, 0, -1, 4, 1, 2, 3, 6, 5, 8, 7,
            -1, 0, 0, -1, -1, -1, -1, -1, -1, -1, -1, -1,
            1234, 5678, 0, 0, 5, 9000, -1, 1,
            0, 0, 0, -1, ONE, 2, 'a', '~'));

        TwoFacedTiles y = Puzzles.withTiles(1, 1, 700, 1111);
        y.setRule(0);
        CHECK.same("digest of a board to fill", y.digest(), hash(
            1, 1, 1, 1, 0, 0, 0, 0, 0, 3,
            -1, 0, 8, 0, -1, -1, -1, -1, -1, -1, -1, -1,
            700, 1111, -1, 0, 3, 3, 0, 0, ONE, 0));
        CHECK.same("digest again", y.digest(), y.digest());
    }

    /** Boards only ever answer 1.0, so the bits of other parts are asked for within the class. */
    private static void bitsOfDoubles() throws ReflectiveOperationException {
        Method bits = TwoFacedTiles.class.getDeclaredMethod("bitsOf", double.class);
        bits.setAccessible(true);
        for (int all = 1; all <= 34; all++) {
            for (int part = 0; part <= all; part++) {
                double value = (double) part / all;
                CHECK.same("bits of " + value, (long) bits.invoke(null, value),
                    Double.doubleToLongBits(value));
            }
        }
    }
}
