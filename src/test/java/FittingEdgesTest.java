/**
 * A test for each case of the document's sentences about placings, what is seen of them, fitting
 * and the rule of the rim.
 */
public final class FittingEdgesTest {
    private static final Check CHECK = new Check();
    private static final String[] SIDES = {"top", "right", "bottom", "left"};
    /** On 3 x 3: the cell beside cell 4 at each side; it lies at the rim at this side alone. */
    private static final int[] BESIDE = {1, 5, 7, 3};
    private static final int[] OPPOSITE = {2, 3, 0, 1};

    public static void main(String[] args) {
        seenOfPlacings();
        sharedSides();
        neighborsTogether();
        cornersAreNotAsked();
        rims();
        severalRims();
        sharedZeros();
        zerosInAnyCells();
        sidesTowardsEmptyCells();
        possibleOnlyWhenFree();
        CHECK.end();
    }

    /** Tile 1234/5678 in each way: seen below, left and right change and turns go back. */
    private static void seenOfPlacings() {
        int[] above = {1234, 4123, 3412, 2341, 5678, 8567, 7856, 6785};
        int[] below = {5876, 6587, 7658, 8765, 1432, 2143, 3214, 4321};
        for (int way = 0; way < 8; way++) {
            int placing = way;
            for (int at = 0; at < 4; at++) {
                int side = at;
                String name = "T placing " + placing + " at the " + SIDES[side];
                CHECK.test(name + " above", () -> CHECK.same("color",
                    oneTile(placing).color(0, side, false), digit(above[placing], side)));
                CHECK.test(name + " below", () -> CHECK.same("color",
                    oneTile(placing).color(0, side, true), digit(below[placing], side)));
            }
        }
    }

    private static TwoFacedTiles oneTile(int placing) {
        TwoFacedTiles x = Puzzles.withTiles(1, 1, 1234, 5678);
        x.lay(0, placing);
        return x;
    }

    private static int digit(int number, int index) {
        return String.valueOf(number).charAt(index) - '0';
    }

    /** Whether placing 8 * tile is possible; a reason as for why is due. */
    private static void asked(String name, Check.Make make, int cell, int tile, int due) {
        CHECK.test(name, () -> {
            TwoFacedTiles x = make.make();
            int placing = 8 * tile;
            CHECK.same("why", x.why(cell, placing), due);
            if (due == 0) {
                int empty = x.count(3);
                CHECK.same("lay", x.lay(cell, placing), empty - 1);
            } else {
                CHECK.refusesState("lay", x, () -> x.lay(cell, placing));
            }
        });
    }

    private static TwoFacedTiles besideFour(int side, int... faces) {
        TwoFacedTiles x = Puzzles.withTiles(3, 3, faces);
        x.lay(BESIDE[side], 0);
        return x;
    }

    private static void sharedSides() {
        for (int i = 0; i < 4; i++) {
            int side = i;
            int own = Puzzles.front(side, 5, 9);
            int ownBack = Puzzles.back(side, 6, 8);
            int other = Puzzles.front(side, 4, 5);
            int otherBack = Puzzles.back(side, 7, 6);
            String p = "T fitting at the " + SIDES[side] + ": ";
            asked(p + "the same above and below",
                () -> besideFour(side, 5555, 6666, own, ownBack), 4, 1, 0);
            asked(p + "another above",
                () -> besideFour(side, 5555, 6666, other, ownBack), 4, 1, 4);
            asked(p + "another below",
                () -> besideFour(side, 5555, 6666, own, otherBack), 4, 1, 5);
            asked(p + "others above and below",
                () -> besideFour(side, 5555, 6666, other, otherBack), 4, 1, 4);
            asked(p + "above as the other is below",
                () -> besideFour(side, 5555, 6666, 6666, 5555), 4, 1, 4);
            asked(p + "the neighbor's other sides do not matter",
                () -> besideFour(side, Puzzles.front(OPPOSITE[side], 5, 1),
                    Puzzles.back(OPPOSITE[side], 6, 1), own, ownBack), 4, 1, 0);
        }
    }

    /** Neighbors at all sides of cell 4, each with colors of its own. */
    private static TwoFacedTiles amongFour(int face, int other) {
        TwoFacedTiles x = Puzzles.withTiles(3, 3,
            1111, 5555, 2222, 6666, 3333, 7777, 4444, 8888, face, other);
        for (int side = 0; side < 4; side++) {
            x.lay(BESIDE[side], 8 * side);
        }
        return x;
    }

    private static void neighborsTogether() {
        String p = "T fitting with all next to it: ";
        asked(p + "all fit", () -> amongFour(1234, 5876), 4, 4, 0);
        int[] wrongAbove = {9234, 1934, 1294, 1239};
        int[] wrongBelow = {9876, 5879, 5896, 5976};
        for (int i = 0; i < 4; i++) {
            int side = i;
            asked(p + "another above at the " + SIDES[side] + " alone",
                () -> amongFour(wrongAbove[side], 5876), 4, 4, 4);
            asked(p + "another below at the " + SIDES[side] + " alone",
                () -> amongFour(1234, wrongBelow[side]), 4, 4, 5);
        }
    }

    private static void cornersAreNotAsked() {
        for (int corner : new int[] {0, 2, 6, 8}) {
            asked("T fitting: a tile that only touches at the corner, cell " + corner, () -> {
                TwoFacedTiles x = Puzzles.withTiles(3, 3, 1111, 1111, 2222, 2222);
                x.lay(4, 0);
                return x;
            }, corner, 1, 0);
        }
    }

    private static TwoFacedTiles ruled(int rows, int columns, int rule, int... faces) {
        TwoFacedTiles x = Puzzles.withTiles(rows, columns, faces);
        x.setRule(rule);
        return x;
    }

    /** The rule, and what is due for a color above alone, below alone, above and below. */
    private static final int[][] AT_RIM = {{0, 0, 0}, {3, 0, 3}, {3, 3, 3}};

    private static void rims() {
        for (int i = 0; i < 4; i++) {
            int side = i;
            for (int j = 0; j < 3; j++) {
                int rule = j;
                String p = "T rule " + rule + ", rim at the " + SIDES[side] + ": ";
                int above = Puzzles.front(side, 9, 0);
                int below = Puzzles.back(side, 9, 0);
                int cell = BESIDE[side];
                asked(p + "0 above and below, others elsewhere", () -> ruled(3, 3, rule,
                    Puzzles.front(side, 0, 1), Puzzles.back(side, 0, 1)), cell, 0, 0);
                asked(p + "not 0 above", () -> ruled(3, 3, rule, above, 0), cell, 0,
                    AT_RIM[rule][0]);
                asked(p + "not 0 below", () -> ruled(3, 3, rule, 0, below), cell, 0,
                    AT_RIM[rule][1]);
                asked(p + "neither 0", () -> ruled(3, 3, rule, above, below), cell, 0,
                    AT_RIM[rule][2]);
            }
        }
        asked("T rule: at first it is 0",
            () -> Puzzles.withTiles(1, 1, 1111, 1111), 0, 0, 0);
        asked("T rule 1: the cell in the middle has no rim",
            () -> ruled(3, 3, 1, 1111, 1111), 4, 0, 0);
        asked("T rule 2: the cell in the middle has no rim",
            () -> ruled(3, 3, 2, 1111, 1111), 4, 0, 0);
    }

    /** Cells with more rims than one: rows, columns, cell, and for each side whether it is one. */
    private static final int[][] RIMS = {
        {1, 1, 0, 1, 1, 1, 1},
        {1, 4, 0, 1, 0, 1, 1}, {1, 4, 1, 1, 0, 1, 0}, {1, 4, 3, 1, 1, 1, 0},
        {3, 1, 0, 1, 1, 0, 1}, {3, 1, 1, 0, 1, 0, 1}, {3, 1, 2, 0, 1, 1, 1},
        {3, 4, 0, 1, 0, 0, 1}, {3, 4, 3, 1, 1, 0, 0}, {3, 4, 8, 0, 0, 1, 1},
        {3, 4, 11, 0, 1, 1, 0}, {3, 4, 4, 0, 0, 0, 1}, {3, 4, 7, 0, 1, 0, 0},
        {3, 4, 2, 1, 0, 0, 0}, {3, 4, 9, 0, 0, 1, 0}, {3, 4, 5, 0, 0, 0, 0}};

    private static void severalRims() {
        for (int[] of : RIMS) {
            String p = "T rims of cell " + of[2] + " on " + of[0] + " x " + of[1] + ": ";
            for (int i = 0; i < 4; i++) {
                int side = i;
                asked(p + "not 0 at the " + SIDES[side] + " above",
                    () -> ruled(of[0], of[1], 1, Puzzles.front(side, 1, 0), 0), of[2], 0,
                    3 * of[3 + side]);
                asked(p + "not 0 at the " + SIDES[side] + " below",
                    () -> ruled(of[0], of[1], 2, 0, Puzzles.back(side, 1, 0)), of[2], 0,
                    3 * of[3 + side]);
            }
        }
    }

    private static TwoFacedTiles ruledBesideFour(int rule, int side, int... faces) {
        TwoFacedTiles x = besideFour(side, faces);
        x.setRule(rule);
        return x;
    }

    /** The rule, and what is due for 0 above alone, below alone, above and below. */
    private static final int[][] AT_SHARED = {{0, 0, 0}, {6, 0, 6}, {6, 6, 6}};

    private static void sharedZeros() {
        for (int i = 0; i < 4; i++) {
            int side = i;
            for (int j = 0; j < 3; j++) {
                int rule = j;
                String p = "T rule " + rule + ", shared side at the " + SIDES[side] + ": ";
                int zero = Puzzles.front(side, 0, 9);
                int zeroBack = Puzzles.back(side, 0, 8);
                int five = Puzzles.front(side, 5, 9);
                int sixBack = Puzzles.back(side, 6, 8);
                asked(p + "no 0", () -> ruledBesideFour(rule, side, 5555, 6666, five, sixBack),
                    4, 1, 0);
                asked(p + "0 above", () -> ruledBesideFour(rule, side, 0, 6666, zero, sixBack),
                    4, 1, AT_SHARED[rule][0]);
                asked(p + "0 below", () -> ruledBesideFour(rule, side, 5555, 0, five, zeroBack),
                    4, 1, AT_SHARED[rule][1]);
                asked(p + "0 above and below",
                    () -> ruledBesideFour(rule, side, 0, 0, zero, zeroBack), 4, 1,
                    AT_SHARED[rule][2]);
            }
        }
    }

    private static void zerosInAnyCells() {
        for (int i = 1; i <= 2; i++) {
            int rule = i;
            String p = "T rule " + rule + ", 0 at a side shared by ";
            asked(p + "two cells at the rim", () -> zeroLaid(1, 2, rule, 0), 1, 1, 6);
            asked(p + "two cells without a rim", () -> zeroLaid(3, 4, rule, 5), 6, 1, 6);
            asked(p + "one at the rim and one without", () -> zeroLaid(3, 4, rule, 4), 5, 1, 6);
        }
    }

    private static TwoFacedTiles zeroLaid(int rows, int columns, int rule, int cell) {
        TwoFacedTiles x = ruled(rows, columns, rule, 0, 0, 0, 0);
        x.lay(cell, 0);
        return x;
    }

    private static void sidesTowardsEmptyCells() {
        for (int i = 0; i <= 2; i++) {
            int rule = i;
            asked("T rule " + rule + ": 0 towards empty cells",
                () -> ruled(3, 3, rule, 0, 0), 4, 0, 0);
            asked("T rule " + rule + ": not 0 towards empty cells",
                () -> ruled(3, 3, rule, 9999, 9999), 4, 0, 0);
            CHECK.test("T rule " + rule + ": a laid tile with 0 towards empty cells fits", () -> {
                TwoFacedTiles x = ruled(3, 3, rule, 0, 0);
                x.lay(4, 0);
                CHECK.same("misfits", x.count(8), 0);
            });
        }
    }

    private static void possibleOnlyWhenFree() {
        Check.Make make = () -> {
            TwoFacedTiles x = Puzzles.alike(1, 3, 2, 1111, 1111);
            x.lay(0, 0);
            return x;
        };
        asked("T possible: a free tile in an empty cell", make, 1, 1, 0);
        asked("T possible: a free tile in a cell that is not empty", make, 0, 1, 1);
        asked("T possible: a tile that is laid", make, 1, 0, 2);
        asked("T possible: a tile that is laid, where it lies", make, 0, 0, 1);
    }
}
