/**
 * A puzzle of square tiles with a picture on both sides: laid on a board with turns, front up or
 * back up, so that edges fit in front and also behind.
 *
 * <p>Everything that a call needs is made in the constructor and used again.
 */
public final class TwoFacedTiles {
    public static final int NONE = -1;

    private static final int MOST_ROWS = 3;
    private static final int MOST_COLUMNS = 4;
    private static final int MOST_CELLS = 12;
    private static final int MOST_TILES = 12;
    private static final int MOST_RULE = 2;
    private static final int MOST_SAVED = 8;
    private static final int MOST_STEPS = 600;
    private static final int MOST_LAYINGS = 50;
    private static final int MOST_STARTS = 2;
    private static final int MOST_CHARACTERS = 60;
    private static final int MOST_SEED = 999999999;
    private static final int MOST_COLORS = 9;
    private static final int MOST_FACE = 9999;
    private static final int LOWEST_CODE = 33;
    private static final int HIGHEST_CODE = 126;
    private static final int CELL_PROPERTIES = 4;
    private static final int TILE_PROPERTIES = 4;
    private static final int NUMBERS = 10;
    private static final int SEARCH_RESULTS = 3;
    private static final int DIGEST_LAYINGS = 3;

    private static final int SIDES = 4;
    private static final int RIGHT = 1;
    private static final int BOTTOM = 2;

    /** The ways in which one tile can lie: two faces, four turns each. */
    private static final int WAYS = 8;

    /**
     * A look holds all colors of a tile as it lies, four bits each: those above at the bits
     * 4 * side, those below at the bits 16 + 4 * side. These masks stand for side 0.
     */
    private static final int ABOVE = 0xF;
    private static final int BELOW = 0xF0000;
    private static final int BOTH = ABOVE | BELOW;

    private static final int NOT_EMPTY = 1;
    private static final int TILE_LAID = 2;
    private static final int WRONG_AT_RIM = 3;
    private static final int WRONG_ABOVE = 4;
    private static final int WRONG_BELOW = 5;
    private static final int FORBIDDEN_ZERO = 6;

    private static final int EXPONENT_OF_ONE = 1023;
    private static final int FRACTION_BITS = 52;

    private final Board board = new Board();
    private final History history = new History();
    private final Text text = new Text();
    private final Needs needs = new Needs();
    private final Search search = new Search();
    private final Draws draws = new Draws();

    public TwoFacedTiles() {
        board.makeEmpty(2, 2);
    }

    // ---- board and tiles

    public int begin(int rows, int columns) throws IllegalArgumentException {
        if (rows < 1 || rows > MOST_ROWS || columns < 1 || columns > MOST_COLUMNS) {
            throw new IllegalArgumentException("rows or columns out of range");
        }
        history.save(board);
        board.makeEmpty(rows, columns);
        return board.cells();
    }

    public int addTile(int face, int other)
            throws IllegalArgumentException, IllegalStateException {
        if (face < 0 || face > MOST_FACE || other < 0 || other > MOST_FACE) {
            throw new IllegalArgumentException("face or other is not 0 to 9999");
        }
        if (board.tiles >= MOST_TILES) {
            throw new IllegalStateException("there are 12 tiles");
        }
        history.save(board);
        board.addFaces(face, other);
        return board.tiles - 1;
    }

    public int dropTile() throws IllegalStateException {
        if (board.tiles < 1 || board.isLaid(board.tiles - 1)) {
            throw new IllegalStateException("no tiles, or the last one is laid");
        }
        history.save(board);
        board.tiles--;
        return board.tiles;
    }

    public int setRule(int rule) throws IllegalArgumentException {
        if (rule < 0 || rule > MOST_RULE) {
            throw new IllegalArgumentException("rule out of range");
        }
        history.save(board);
        int previous = board.rule;
        board.rule = rule;
        return previous;
    }

    public int cut(int seed, int colors) throws IllegalArgumentException {
        if (seed < 1 || seed > MOST_SEED || colors < 1 || colors > MOST_COLORS) {
            throw new IllegalArgumentException("seed or colors out of range");
        }
        history.save(board);
        board.makeEmpty(board.rows, board.columns);
        draws.start(seed, colors);
        board.cutTiles(draws);
        return board.tiles;
    }

    // ---- laying

    public int lay(int cell, int placing)
            throws IndexOutOfBoundsException, IllegalStateException {
        requirePlacing(cell, placing);
        if (reason(cell, placing) != 0) {
            throw new IllegalStateException("the placing is not possible there");
        }
        history.save(board);
        board.put(cell, placing);
        return board.emptyCells();
    }

    public int take(int cell) throws IndexOutOfBoundsException, IllegalStateException {
        requireCell(cell);
        if (board.isEmpty(cell) || board.isFixed(cell)) {
            throw new IllegalStateException("the cell is empty or fixed");
        }
        history.save(board);
        int placing = board.placings[cell];
        board.remove(cell);
        return placing;
    }

    public int fix(int cell) throws IndexOutOfBoundsException, IllegalStateException {
        requireCell(cell);
        if (board.isEmpty(cell)) {
            throw new IllegalStateException("the cell is empty");
        }
        history.save(board);
        board.fixed ^= 1 << cell;
        return board.isFixed(cell) ? 1 : 0;
    }

    public int clear() {
        history.save(board);
        return board.removeAllBut(board.fixed);
    }

    public int turnOver() {
        history.save(board);
        board.mirror();
        return board.cells() - board.emptyCells();
    }

    public int solve() throws IllegalStateException {
        search.run(board, 1);
        if (search.found < 1) {
            throw new IllegalStateException("the search finds no laying");
        }
        history.save(board);
        int laid = board.emptyCells();
        // The search stops at its last laying, so its board holds the first one here.
        board.copyFrom(search.trial);
        return laid;
    }

    // ---- texts

    public int append(int code) throws IllegalArgumentException, IllegalStateException {
        if (code < LOWEST_CODE || code > HIGHEST_CODE) {
            throw new IllegalArgumentException("code is not 33 to 126");
        }
        if (text.length >= MOST_CHARACTERS) {
            throw new IllegalStateException("the buffer has 60 characters");
        }
        text.codes[text.length] = code;
        text.length++;
        return text.length;
    }

    public int clearBuffer() {
        int length = text.length;
        text.length = 0;
        return length;
    }

    public int firstError() {
        return text.firstWrong();
    }

    public int load() throws IllegalArgumentException, IllegalStateException {
        if (!text.isComplete()) {
            throw new IllegalArgumentException("the buffer is not a complete text");
        }
        if (board.tiles + text.tilesTold() > MOST_TILES) {
            throw new IllegalStateException("there would be more than 12 tiles");
        }
        history.save(board);
        for (int told = 0; told < text.tilesTold(); told++) {
            board.addFaces(text.faceTold(told, 0), text.faceTold(told, 1));
        }
        text.length = 0;
        return board.tiles;
    }

    public int undo() throws IllegalStateException {
        if (history.kept < 1) {
            throw new IllegalStateException("there is no saved state");
        }
        history.restore(board);
        return history.kept;
    }

    // ---- what there is

    public int cell(int cell, int what)
            throws IndexOutOfBoundsException, IllegalArgumentException {
        requireCell(cell);
        if (what < 0 || what >= CELL_PROPERTIES) {
            throw new IllegalArgumentException("what is not 0 to 3");
        }
        return cellProperty(cell, what);
    }

    public int color(int cell, int side, boolean below) throws IndexOutOfBoundsException {
        requireCell(cell);
        if (side < 0 || side >= SIDES) {
            throw new IndexOutOfBoundsException("no such side");
        }
        return colorAt(cell, side, below);
    }

    public int tile(int tile, int what)
            throws IndexOutOfBoundsException, IllegalArgumentException {
        if (tile < 0 || tile >= board.tiles) {
            throw new IndexOutOfBoundsException("no such tile");
        }
        if (what < 0 || what >= TILE_PROPERTIES) {
            throw new IllegalArgumentException("what is not 0 to 3");
        }
        return tileProperty(tile, what);
    }

    public int count(int what) throws IllegalArgumentException {
        if (what < 0 || what >= NUMBERS) {
            throw new IllegalArgumentException("what is not 0 to 9");
        }
        return number(what);
    }

    // ---- what would be; nothing is changed

    public int layings(int most, int what) throws IllegalArgumentException {
        if (most < 1 || most > MOST_LAYINGS || what < 0 || what >= SEARCH_RESULTS) {
            throw new IllegalArgumentException("most or what out of range");
        }
        search.run(board, most);
        return search.result(what);
    }

    public int hint() {
        return bestStep();
    }

    public int starts() {
        if (board.emptyCells() > 0) {
            return NONE;
        }
        for (int bits = 0; bits <= MOST_STARTS; bits++) {
            for (int mask = 0; mask < 1 << board.cells(); mask++) {
                if (Integer.bitCount(mask) == bits && search.isSure(board, mask)) {
                    return mask;
                }
            }
        }
        return NONE;
    }

    public int why(int cell, int placing) throws IndexOutOfBoundsException {
        requirePlacing(cell, placing);
        return reason(cell, placing);
    }

    public double fitting() {
        return fittingPart();
    }

    public long digest() {
        long hash = 2137L;
        for (int what = 0; what < NUMBERS; what++) {
            hash = 31 * hash + number(what);
        }
        hash = hashCells(hash);
        hash = hashTiles(hash);
        search.run(board, DIGEST_LAYINGS);
        for (int what = 0; what < SEARCH_RESULTS; what++) {
            hash = 31 * hash + search.result(what);
        }
        hash = 31 * hash + bestStep();
        hash = 31 * hash + bitsOf(fittingPart());
        hash = 31 * hash + text.length;
        for (int i = 0; i < text.length; i++) {
            hash = 31 * hash + text.codes[i];
        }
        return hash;
    }

    private void requireCell(int cell) {
        if (!board.hasCell(cell)) {
            throw new IndexOutOfBoundsException("no such cell");
        }
    }

    private void requirePlacing(int cell, int placing) {
        requireCell(cell);
        if (!board.hasPlacing(placing)) {
            throw new IndexOutOfBoundsException("no such tile");
        }
    }

    /** Why a placing is not possible, 0 if it is. */
    private int reason(int cell, int placing) {
        if (!board.isEmpty(cell)) {
            return NOT_EMPTY;
        }
        if (board.isLaid(placing / WAYS)) {
            return TILE_LAID;
        }
        needs.read(board, cell);
        return needs.reasonAgainst(board.looks[placing]);
    }

    private int cellProperty(int cell, int what) {
        switch (what) {
            case 0:
                return board.placings[cell];
            case 1:
                return board.isFixed(cell) ? 1 : 0;
            case 2:
                return possibleCount(cell);
            default:
                return firstPossible(cell);
        }
    }

    private int possibleCount(int cell) {
        if (!board.isEmpty(cell)) {
            return 0;
        }
        needs.read(board, cell);
        int possible = 0;
        for (int placing = 0; placing < WAYS * board.tiles; placing++) {
            if (meetsNeeds(placing)) {
                possible++;
            }
        }
        return possible;
    }

    private int firstPossible(int cell) {
        if (!board.isEmpty(cell)) {
            return NONE;
        }
        needs.read(board, cell);
        for (int placing = 0; placing < WAYS * board.tiles; placing++) {
            if (meetsNeeds(placing)) {
                return placing;
            }
        }
        return NONE;
    }

    /** Whether a placing is possible in the empty cell whose needs were read last. */
    private boolean meetsNeeds(int placing) {
        return !board.isLaid(placing / WAYS) && needs.reasonAgainst(board.looks[placing]) == 0;
    }

    private int colorAt(int cell, int side, boolean below) {
        if (board.isEmpty(cell)) {
            return NONE;
        }
        int colors = colorsAt(board.lookIn(cell), side);
        return below ? colors >>> 16 : colors & ABOVE;
    }

    private int tileProperty(int tile, int what) {
        switch (what) {
            case 0:
                return board.faceOf(tile, 0);
            case 1:
                return board.faceOf(tile, 1);
            case 2:
                return board.places[tile];
            default:
                return board.lowestLike(tile);
        }
    }

    private int number(int what) {
        switch (what) {
            case 0:
                return board.rows;
            case 1:
                return board.columns;
            case 2:
                return board.tiles;
            case 3:
                return board.emptyCells();
            case 4:
                return Integer.bitCount(board.fixed);
            case 5:
                return board.rule;
            case 6:
                return board.pairsAlike(ABOVE);
            case 7:
                return board.pairsAlike(BELOW);
            case 8:
                return misfits();
            default:
                return history.kept;
        }
    }

    private int misfits() {
        int misfits = 0;
        for (int cell = 0; cell < board.cells(); cell++) {
            if (!board.isEmpty(cell)) {
                needs.read(board, cell);
                if (needs.reasonAgainst(board.lookIn(cell)) != 0) {
                    misfits++;
                }
            }
        }
        return misfits;
    }

    private int bestStep() {
        int best = NONE;
        int fewest = 0;
        for (int cell = 0; cell < board.cells(); cell++) {
            int possible = possibleCount(cell);
            if (possible > 0 && (best == NONE || possible < fewest)) {
                best = cell;
                fewest = possible;
            }
        }
        return best == NONE ? NONE : 100 * best + firstPossible(best);
    }

    private double fittingPart() {
        int pairs = board.pairsAlike(0);
        if (pairs < 1) {
            return 1.0;
        }
        int alike = board.pairsAlike(ABOVE) + board.pairsAlike(BELOW);
        return (double) alike / (double) (2 * pairs);
    }

    private long hashCells(long start) {
        long hash = start;
        for (int cell = 0; cell < board.cells(); cell++) {
            for (int what = 0; what < CELL_PROPERTIES; what++) {
                hash = 31 * hash + cellProperty(cell, what);
            }
            for (int side = 0; side < SIDES; side++) {
                hash = 31 * hash + colorAt(cell, side, false);
            }
            for (int side = 0; side < SIDES; side++) {
                hash = 31 * hash + colorAt(cell, side, true);
            }
        }
        return hash;
    }

    private long hashTiles(long start) {
        long hash = start;
        for (int tile = 0; tile < board.tiles; tile++) {
            for (int what = 0; what < TILE_PROPERTIES; what++) {
                hash = 31 * hash + tileProperty(tile, what);
            }
        }
        return hash;
    }

    /**
     * The bits of a number from 0 to 1, as Double.doubleToLongBits tells them: that call is not
     * in the library that LANGUAGE.md lists. Doubling is exact, so no bit gets lost.
     */
    private static long bitsOf(double value) {
        if (!(value > 0.0)) {
            return 0L;
        }
        double scaled = value;
        long exponent = EXPONENT_OF_ONE;
        while (scaled < 1.0 && exponent > 1) {
            scaled = scaled * 2.0;
            exponent--;
        }
        long fraction = (long) ((scaled - 1.0) * (double) (1L << FRACTION_BITS));
        return (exponent << FRACTION_BITS) + fraction;
    }

    /** The colors of a look at a side, moved to where side 0 has them. */
    private static int colorsAt(int look, int side) {
        return (look >>> 4 * side) & BOTH;
    }

    /** What is seen at a side of a cell lies at this side of its neighbor. */
    private static int opposite(int side) {
        return (side + 2) % SIDES;
    }

    /** Left and right change places for one who looks from behind. */
    private static int seenFromBehind(int side) {
        return (SIDES - side) % SIDES;
    }

    /** The look after one more quarter clockwise: the colors of a side come to the next one. */
    private static int turned(int look) {
        int next = 0;
        for (int side = 0; side < SIDES; side++) {
            next |= colorsAt(look, side) << 4 * ((side + 1) % SIDES);
        }
        return next;
    }

    /** The look after turning over around the vertical axis. */
    private static int turnedOver(int look) {
        int over = 0;
        for (int side = 0; side < SIDES; side++) {
            int colors = colorsAt(look, side);
            int swapped = colors >>> 16 | (colors & ABOVE) << 16;
            over |= swapped << 4 * seenFromBehind(side);
        }
        return over;
    }

    private static int lookOfFaces(int face, int other) {
        int look = 0;
        for (int side = 0; side < SIDES; side++) {
            int above = digit(face, side);
            int below = digit(other, seenFromBehind(side));
            look |= (above | below << 16) << 4 * side;
        }
        return look;
    }

    /** The digit at an index, from the first of four digits on. */
    private static int digit(int number, int index) {
        int rest = number;
        for (int i = index; i < SIDES - 1; i++) {
            rest = rest / 10;
        }
        return rest % 10;
    }

    /** The placing of the same tile after turning over around the vertical axis. */
    private static int placingTurnedOver(int placing) {
        if (placing == NONE) {
            return NONE;
        }
        int tile = placing / WAYS;
        int face = 1 - placing / 4 % 2;
        int turn = (4 - placing % 4) % 4;
        return WAYS * tile + 4 * face + turn;
    }

    /** All that undo restores: the board with its tiles, all tiles, fixed cells and the rule. */
    private static final class Board {
        int rows = 1;
        int columns = 1;
        int rule = 0;
        int tiles = 0;
        /** Bit n stands for cell n; empty cells are never fixed. */
        int fixed = 0;
        /** The placing in each cell, NONE if it is empty. */
        final int[] placings = new int[MOST_CELLS];
        /** The cell of each tile, NONE if it is not laid (or not there). */
        final int[] places = new int[MOST_TILES];
        /** The look of each placing. */
        final int[] looks = new int[WAYS * MOST_TILES];

        void copyFrom(Board from) {
            rows = from.rows;
            columns = from.columns;
            rule = from.rule;
            tiles = from.tiles;
            fixed = from.fixed;
            System.arraycopy(from.placings, 0, placings, 0, MOST_CELLS);
            System.arraycopy(from.places, 0, places, 0, MOST_TILES);
            System.arraycopy(from.looks, 0, looks, 0, WAYS * MOST_TILES);
        }

        void makeEmpty(int newRows, int newColumns) {
            rows = newRows;
            columns = newColumns;
            fixed = 0;
            for (int cell = 0; cell < MOST_CELLS; cell++) {
                placings[cell] = NONE;
            }
            for (int tile = 0; tile < MOST_TILES; tile++) {
                places[tile] = NONE;
            }
        }

        int cells() {
            return rows * columns;
        }

        boolean hasCell(int cell) {
            return cell >= 0 && cell < cells();
        }

        boolean hasPlacing(int placing) {
            return placing >= 0 && placing < WAYS * tiles;
        }

        boolean isEmpty(int cell) {
            return placings[cell] == NONE;
        }

        boolean isFixed(int cell) {
            return (fixed >> cell & 1) == 1;
        }

        boolean isLaid(int tile) {
            return places[tile] != NONE;
        }

        /** Only for a cell that is not empty. */
        int lookIn(int cell) {
            return looks[placings[cell]];
        }

        int emptyCells() {
            int empty = 0;
            for (int cell = 0; cell < cells(); cell++) {
                if (isEmpty(cell)) {
                    empty++;
                }
            }
            return empty;
        }

        /** The cell at a side of a cell, NONE at the rim. */
        int neighbor(int cell, int side) {
            int column = columns < 1 ? 0 : cell % columns;
            switch (side) {
                case 0:
                    return cell >= columns ? cell - columns : NONE;
                case RIGHT:
                    return column + 1 < columns ? cell + 1 : NONE;
                case BOTTOM:
                    return cell + columns < cells() ? cell + columns : NONE;
                default:
                    return column > 0 ? cell - 1 : NONE;
            }
        }

        void put(int cell, int placing) {
            placings[cell] = placing;
            places[placing / WAYS] = cell;
        }

        /** Only for a cell that is not empty. */
        void remove(int cell) {
            places[placings[cell] / WAYS] = NONE;
            placings[cell] = NONE;
        }

        /** Takes the tiles off all cells but those of the mask, and tells how many. */
        int removeAllBut(int mask) {
            int removed = 0;
            for (int cell = 0; cell < cells(); cell++) {
                if (!isEmpty(cell) && (mask >> cell & 1) == 0) {
                    remove(cell);
                    removed++;
                }
            }
            return removed;
        }

        void mirror() {
            int fixedBefore = fixed;
            fixed = 0;
            for (int row = 0; row < rows; row++) {
                for (int column = 0; column < columns; column++) {
                    int cell = row * columns + column;
                    int image = row * columns + columns - 1 - column;
                    fixed |= (fixedBefore >> image & 1) << cell;
                    if (cell <= image) {
                        swapTurnedOver(cell, image);
                    }
                }
            }
            for (int cell = 0; cell < cells(); cell++) {
                if (!isEmpty(cell)) {
                    places[placings[cell] / WAYS] = cell;
                }
            }
        }

        private void swapTurnedOver(int cell, int image) {
            int placing = placings[cell];
            placings[cell] = placingTurnedOver(placings[image]);
            placings[image] = placingTurnedOver(placing);
        }

        /** Only while there are fewer tiles than can be. */
        void addFaces(int face, int other) {
            looks[WAYS * tiles] = lookOfFaces(face, other);
            makeWays(tiles);
            tiles++;
        }

        /** Finds the looks of a tile for all its ways from that for face 0 and turn 0. */
        private void makeWays(int tile) {
            int first = WAYS * tile;
            looks[first + 4] = turnedOver(looks[first]);
            for (int turn = 1; turn < 4; turn++) {
                looks[first + turn] = turned(looks[first + turn - 1]);
                looks[first + 4 + turn] = turned(looks[first + 4 + turn - 1]);
            }
        }

        /** Makes a tile for each cell; only for an empty board. */
        void cutTiles(Draws draws) {
            tiles = cells();
            for (int cell = 0; cell < tiles; cell++) {
                looks[WAYS * cell] = 0;
            }
            for (int cell = 0; cell < tiles; cell++) {
                cutSide(cell, RIGHT, draws);
                cutSide(cell, BOTTOM, draws);
            }
            for (int cell = 0; cell < tiles; cell++) {
                makeWays(cell);
            }
        }

        private void cutSide(int cell, int side, Draws draws) {
            int near = neighbor(cell, side);
            if (near == NONE) {
                return;
            }
            int above = draws.next();
            int below = draws.next();
            int colors = above | below << 16;
            looks[WAYS * cell] |= colors << 4 * side;
            looks[WAYS * near] |= colors << 4 * opposite(side);
        }

        /** A face as told for addTile. */
        int faceOf(int tile, int face) {
            int look = looks[WAYS * tile + 4 * face];
            int told = 0;
            for (int side = 0; side < SIDES; side++) {
                told = 10 * told + (colorsAt(look, side) & ABOVE);
            }
            return told;
        }

        /** The lowest tile that looks just like this one in one of its ways. */
        int lowestLike(int tile) {
            int look = looks[WAYS * tile];
            for (int placing = 0; placing < WAYS * tile; placing++) {
                if (looks[placing] == look) {
                    return placing / WAYS;
                }
            }
            return tile;
        }

        /** How many pairs of laid neighbors agree in the colors of the mask (told for side 0). */
        int pairsAlike(int mask) {
            int alike = 0;
            for (int cell = 0; cell < cells(); cell++) {
                if (isAlike(cell, RIGHT, mask)) {
                    alike++;
                }
                if (isAlike(cell, BOTTOM, mask)) {
                    alike++;
                }
            }
            return alike;
        }

        private boolean isAlike(int cell, int side, int mask) {
            int near = neighbor(cell, side);
            if (near == NONE || isEmpty(cell) || isEmpty(near)) {
                return false;
            }
            int own = colorsAt(lookIn(cell), side);
            int others = colorsAt(lookIn(near), opposite(side));
            return ((own ^ others) & mask) == 0;
        }
    }

    /** The colors that are drawn for cut: the digits of the seed, from the last one on. */
    private static final class Draws {
        private int seed = 1;
        private int colors = 1;
        private int rest = 1;

        void start(int newSeed, int newColors) {
            seed = newSeed;
            colors = newColors < 1 ? 1 : newColors;
            rest = newSeed;
        }

        int next() {
            int drawn = 1 + rest % 10 % colors;
            rest = rest / 10;
            if (rest == 0) {
                rest = seed;
            }
            return drawn;
        }
    }

    /** The saved states, in a ring so that the oldest one makes room for the newest. */
    private static final class History {
        private final Board[] states = new Board[MOST_SAVED];
        private int oldest = 0;
        int kept = 0;

        History() {
            for (int i = 0; i < MOST_SAVED; i++) {
                states[i] = new Board();
            }
        }

        void save(Board board) {
            if (kept >= MOST_SAVED) {
                oldest = (oldest + 1) % MOST_SAVED;
                kept--;
            }
            states[(oldest + kept) % MOST_SAVED].copyFrom(board);
            kept++;
        }

        /** Only while there is a saved state. */
        void restore(Board board) {
            kept--;
            board.copyFrom(states[(oldest + kept) % MOST_SAVED]);
        }
    }

    /** What a cell asks of the look of a tile, from the rim and from the tiles next to it. */
    private static final class Needs {
        private int mustBeZero = 0;
        private int mustAgree = 0;
        private int wanted = 0;
        private boolean forbiddenZero = false;

        void read(Board board, int cell) {
            mustBeZero = 0;
            mustAgree = 0;
            wanted = 0;
            forbiddenZero = false;
            int ruled = ruledColors(board.rule);
            for (int side = 0; side < SIDES; side++) {
                int near = board.neighbor(cell, side);
                if (near == NONE) {
                    mustBeZero |= ruled << 4 * side;
                } else if (!board.isEmpty(near)) {
                    readNeighbor(colorsAt(board.lookIn(near), opposite(side)), side, ruled);
                }
            }
        }

        private void readNeighbor(int colors, int side, int ruled) {
            mustAgree |= BOTH << 4 * side;
            wanted |= colors << 4 * side;
            if ((ruled & ABOVE) != 0 && (colors & ABOVE) == 0) {
                forbiddenZero = true;
            }
            if ((ruled & BELOW) != 0 && (colors & BELOW) == 0) {
                forbiddenZero = true;
            }
        }

        private static int ruledColors(int rule) {
            if (rule == 0) {
                return 0;
            }
            return rule == 1 ? ABOVE : BOTH;
        }

        /** Why a tile with this look does not fit, 0 if it does. */
        int reasonAgainst(int look) {
            if ((look & mustBeZero) != 0) {
                return WRONG_AT_RIM;
            }
            int different = (look ^ wanted) & mustAgree;
            if ((different & 0xFFFF) != 0) {
                return WRONG_ABOVE;
            }
            if (different != 0) {
                return WRONG_BELOW;
            }
            // The colors agree here, so the neighbor's zero is the tile's own, too.
            return forbiddenZero ? FORBIDDEN_ZERO : 0;
        }
    }

    /** The search for layings, on a board of its own. */
    private static final class Search {
        final Board trial = new Board();
        int found = 0;
        private final Needs[] needs = new Needs[MOST_CELLS];
        private int most = 0;
        private int steps = 0;
        private boolean tooManySteps = false;
        private boolean over = false;

        Search() {
            for (int cell = 0; cell < MOST_CELLS; cell++) {
                needs[cell] = new Needs();
            }
        }

        void run(Board from, int mostLayings) {
            trial.copyFrom(from);
            runTrial(mostLayings);
        }

        /** Whether the tiles in the cells of the mask alone leave just one laying. */
        boolean isSure(Board from, int mask) {
            trial.copyFrom(from);
            trial.removeAllBut(mask);
            runTrial(2);
            return found == 1 && !tooManySteps;
        }

        int result(int what) {
            switch (what) {
                case 0:
                    return found;
                case 1:
                    return steps;
                default:
                    return tooManySteps ? 1 : 0;
            }
        }

        private void runTrial(int mostLayings) {
            most = mostLayings;
            found = 0;
            steps = 0;
            tooManySteps = false;
            over = false;
            fillFrom(0);
        }

        /** Fills the empty cells from this one on; each level goes on with a later cell. */
        private void fillFrom(int start) {
            int cell = start;
            while (cell < trial.cells() && !trial.isEmpty(cell)) {
                cell++;
            }
            if (cell >= trial.cells()) {
                found++;
                over = found >= most;
                return;
            }
            needs[cell].read(trial, cell);
            for (int tile = 0; tile < trial.tiles && !over; tile++) {
                int first = WAYS * tile;
                int end = trial.isLaid(tile) ? first : first + WAYS;
                for (int placing = first; placing < end && !over; placing++) {
                    if (needs[cell].reasonAgainst(trial.looks[placing]) == 0) {
                        tryPlacing(cell, placing);
                    }
                }
            }
        }

        private void tryPlacing(int cell, int placing) {
            if (steps >= MOST_STEPS) {
                tooManySteps = true;
                over = true;
                return;
            }
            steps++;
            trial.put(cell, placing);
            fillFrom(cell + 1);
            if (!over) {
                trial.remove(cell);
            }
        }
    }

    /** The buffer: tiles of nine characters, "1234/5678", with ";" between them. */
    private static final class Text {
        private static final int PERIOD = 10;

        final int[] codes = new int[MOST_CHARACTERS];
        int length = 0;

        int firstWrong() {
            for (int i = 0; i < length; i++) {
                if (!isRight(i)) {
                    return i;
                }
            }
            return length;
        }

        private boolean isRight(int index) {
            int code = codes[index];
            switch (index % PERIOD) {
                case 4:
                    return code == '/';
                case 9:
                    return code == ';';
                default:
                    return code >= '0' && code <= '9';
            }
        }

        boolean isComplete() {
            return length % PERIOD == PERIOD - 1 && firstWrong() == length;
        }

        /** How many tiles a complete text tells. */
        int tilesTold() {
            return (length + 1) / PERIOD;
        }

        /** A face of a tile that a complete text tells. */
        int faceTold(int told, int face) {
            int first = PERIOD * told + 5 * face;
            int number = 0;
            for (int i = first; i < first + SIDES && i < length; i++) {
                number = 10 * number + codes[i] - '0';
            }
            return number;
        }
    }
}
