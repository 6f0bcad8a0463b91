import java.util.ArrayList;
import java.util.List;

/**
 * The document once more, word by word and without any care for speed: what the class is
 * compared with in RandomRunsTest. Faces are arrays of four colors, a laid tile is looked at
 * with the formulas of the document's terms.
 */
final class Model {
    private static final class State {
        int rows = 2;
        int columns = 2;
        int rule = 0;
        List<int[][]> tiles = new ArrayList<>();
        int[] board = {-1, -1, -1, -1};
        boolean[] fixed = new boolean[4];

        State copy() {
            State copy = new State();
            copy.rows = rows;
            copy.columns = columns;
            copy.rule = rule;
            copy.tiles = new ArrayList<>(tiles);
            copy.board = board.clone();
            copy.fixed = fixed.clone();
            return copy;
        }
    }

    private State now = new State();
    private final List<State> saved = new ArrayList<>();
    private String buffer = "";

    private int most;
    private int found;
    private int steps;
    private boolean limit;
    private int[] firstLaying;

    private void save() {
        saved.add(now.copy());
        if (saved.size() > 8) {
            saved.remove(0);
        }
    }

    private static void argument(boolean right) {
        if (!right) {
            throw new IllegalArgumentException();
        }
    }

    private static void state(boolean right) {
        if (!right) {
            throw new IllegalStateException();
        }
    }

    private static void index(boolean right) {
        if (!right) {
            throw new IndexOutOfBoundsException();
        }
    }

    private void checkCell(int cell) {
        index(0 <= cell && cell < now.board.length);
    }

    private void checkPlacing(int placing) {
        index(0 <= placing && placing <= 8 * now.tiles.size() - 1);
    }

    private static int[] edges(int number) {
        return new int[] {number / 1000, number / 100 % 10, number / 10 % 10, number % 10};
    }

    private static int number(int[] edges) {
        return 1000 * edges[0] + 100 * edges[1] + 10 * edges[2] + edges[3];
    }

    private int seen(int placing, int side, boolean below) {
        int[][] tile = now.tiles.get(placing / 8);
        int face = placing / 4 % 2;
        int turn = placing % 4;
        return below ? tile[1 - face][((4 - side) % 4 + turn) % 4]
            : tile[face][(side - turn + 4) % 4];
    }

    private int next(int cell, int side) {
        int row = cell / now.columns + new int[] {-1, 0, 1, 0}[side];
        int column = cell % now.columns + new int[] {0, 1, 0, -1}[side];
        boolean inside = 0 <= row && row < now.rows && 0 <= column && column < now.columns;
        return inside ? row * now.columns + column : -1;
    }

    private boolean laid(int tile) {
        return where(tile) != -1;
    }

    private int where(int tile) {
        for (int cell = 0; cell < now.board.length; cell++) {
            if (now.board[cell] != -1 && now.board[cell] / 8 == tile) {
                return cell;
            }
        }
        return -1;
    }

    private boolean badRim(int placing, int side) {
        return now.rule >= 1 && seen(placing, side, false) != 0
            || now.rule == 2 && seen(placing, side, true) != 0;
    }

    private boolean differ(int placing, int side, int other, boolean below) {
        return seen(placing, side, below) != seen(other, (side + 2) % 4, below);
    }

    private boolean badZero(int placing, int side) {
        return now.rule >= 1 && seen(placing, side, false) == 0
            || now.rule == 2 && seen(placing, side, true) == 0;
    }

    /** 3 to 6 as for why, 0 if the placing fits in the cell. */
    private int misfit(int cell, int placing) {
        boolean[] reasons = new boolean[7];
        for (int side = 0; side < 4; side++) {
            int near = next(cell, side);
            if (near == -1) {
                reasons[3] |= badRim(placing, side);
            } else if (now.board[near] != -1) {
                reasons[4] |= differ(placing, side, now.board[near], false);
                reasons[5] |= differ(placing, side, now.board[near], true);
                reasons[6] |= badZero(placing, side);
            }
        }
        for (int reason = 3; reason <= 6; reason++) {
            if (reasons[reason]) {
                return reason;
            }
        }
        return 0;
    }

    private boolean possible(int cell, int placing) {
        return now.board[cell] == -1 && !laid(placing / 8) && misfit(cell, placing) == 0;
    }

    private List<Integer> possibleOnes(int cell) {
        List<Integer> ones = new ArrayList<>();
        for (int placing = 0; placing < 8 * now.tiles.size(); placing++) {
            if (possible(cell, placing)) {
                ones.add(placing);
            }
        }
        return ones;
    }

    private int empty() {
        int empty = 0;
        for (int placing : now.board) {
            empty += placing == -1 ? 1 : 0;
        }
        return empty;
    }

    private void search(int howMany) {
        int[] before = now.board.clone();
        most = howMany;
        found = 0;
        steps = 0;
        limit = false;
        firstLaying = null;
        goOn(0);
        now.board = before;
    }

    private void goOn(int cell) {
        if (cell == now.board.length) {
            found++;
            if (firstLaying == null) {
                firstLaying = now.board.clone();
            }
        } else if (now.board[cell] != -1) {
            goOn(cell + 1);
        } else {
            for (int placing : possibleOnes(cell)) {
                if (found == most || limit) {
                    return;
                }
                if (steps == 600) {
                    limit = true;
                    return;
                }
                steps++;
                now.board[cell] = placing;
                goOn(cell + 1);
                now.board[cell] = -1;
            }
        }
    }

    int begin(int rows, int columns) {
        argument(1 <= rows && rows <= 3 && 1 <= columns && columns <= 4);
        save();
        now.rows = rows;
        now.columns = columns;
        emptyBoard();
        return rows * columns;
    }

    private void emptyBoard() {
        now.board = new int[now.rows * now.columns];
        java.util.Arrays.fill(now.board, -1);
        now.fixed = new boolean[now.board.length];
    }

    int addTile(int face, int other) {
        argument(0 <= face && face <= 9999 && 0 <= other && other <= 9999);
        state(now.tiles.size() < 12);
        save();
        now.tiles.add(new int[][] {edges(face), edges(other)});
        return now.tiles.size() - 1;
    }

    int dropTile() {
        state(!now.tiles.isEmpty() && !laid(now.tiles.size() - 1));
        save();
        now.tiles.remove(now.tiles.size() - 1);
        return now.tiles.size();
    }

    int setRule(int rule) {
        argument(0 <= rule && rule <= 2);
        save();
        int previous = now.rule;
        now.rule = rule;
        return previous;
    }

    int cut(int seed, int colors) {
        argument(1 <= seed && seed <= 999999999 && 1 <= colors && colors <= 9);
        save();
        emptyBoard();
        now.tiles = new ArrayList<>();
        int[][][] sides = new int[now.board.length][4][2];
        String digits = new StringBuilder(String.valueOf(seed)).reverse().toString();
        int drawn = 0;
        for (int cell = 0; cell < now.board.length; cell++) {
            for (int side = 1; side <= 2; side++) {
                int near = next(cell, side);
                for (int below = 0; below < 2 && near != -1; below++) {
                    int color = 1 + (digits.charAt(drawn++ % digits.length()) - '0') % colors;
                    sides[cell][side][below] = color;
                    sides[near][(side + 2) % 4][below] = color;
                }
            }
        }
        for (int[][] each : sides) {
            int[] front = {each[0][0], each[1][0], each[2][0], each[3][0]};
            int[] back = {each[0][1], each[3][1], each[2][1], each[1][1]};
            now.tiles.add(new int[][] {front, back});
        }
        return now.tiles.size();
    }

    int lay(int cell, int placing) {
        checkCell(cell);
        checkPlacing(placing);
        state(possible(cell, placing));
        save();
        now.board[cell] = placing;
        return empty();
    }

    int take(int cell) {
        checkCell(cell);
        state(now.board[cell] != -1 && !now.fixed[cell]);
        save();
        int placing = now.board[cell];
        now.board[cell] = -1;
        return placing;
    }

    int fix(int cell) {
        checkCell(cell);
        state(now.board[cell] != -1);
        save();
        now.fixed[cell] = !now.fixed[cell];
        return now.fixed[cell] ? 1 : 0;
    }

    int clear() {
        save();
        int taken = 0;
        for (int cell = 0; cell < now.board.length; cell++) {
            if (now.board[cell] != -1 && !now.fixed[cell]) {
                now.board[cell] = -1;
                taken++;
            }
        }
        return taken;
    }

    /** Looks for the placing that shows above, mirrored, what was below, and the other way. */
    private int overturned(int placing) {
        int start = placing / 8 * 8 + (1 - placing / 4 % 2) * 4;
        return start + (4 - placing % 4) % 4;
    }

    int turnOver() {
        save();
        State old = now.copy();
        for (int cell = 0; cell < now.board.length; cell++) {
            int column = cell % now.columns;
            int image = cell - column + now.columns - 1 - column;
            now.board[cell] = old.board[image] == -1 ? -1 : overturned(old.board[image]);
            now.fixed[cell] = old.fixed[image];
            for (int side = 0; side < 4 && now.board[cell] != -1; side++) {
                int seenFrom = (4 - side) % 4;
                if (seen(now.board[cell], side, false) != seen(old.board[image], seenFrom, true)
                    || seen(now.board[cell], side, true) != seen(old.board[image], seenFrom, false)) {
                    throw new AssertionError("the model itself turns over wrongly");
                }
            }
        }
        return now.board.length - empty();
    }

    int solve() {
        search(1);
        state(found == 1);
        save();
        int laid = empty();
        now.board = firstLaying;
        return laid;
    }

    int append(int code) {
        argument(33 <= code && code <= 126);
        state(buffer.length() < 60);
        buffer += (char) code;
        return buffer.length();
    }

    int clearBuffer() {
        int length = buffer.length();
        buffer = "";
        return length;
    }

    /** A text begins so if it can be made complete. */
    private static boolean begins(String text) {
        String form = "0000/0000;";
        String rest = form.substring(text.length() % 10) + "0000/0000";
        return (text + rest).matches("\\d{4}/\\d{4}(;\\d{4}/\\d{4})*");
    }

    int firstError() {
        for (int i = 0; i < buffer.length(); i++) {
            if (!begins(buffer.substring(0, i + 1))) {
                return i;
            }
        }
        return buffer.length();
    }

    int load() {
        argument(buffer.matches("\\d{4}/\\d{4}(;\\d{4}/\\d{4})*"));
        String[] told = buffer.split(";");
        state(now.tiles.size() + told.length <= 12);
        save();
        for (String tile : told) {
            String[] faces = tile.split("/");
            now.tiles.add(new int[][] {
                edges(Integer.parseInt(faces[0])), edges(Integer.parseInt(faces[1]))});
        }
        buffer = "";
        return now.tiles.size();
    }

    int undo() {
        state(!saved.isEmpty());
        now = saved.remove(saved.size() - 1);
        return saved.size();
    }

    int cell(int cell, int what) {
        checkCell(cell);
        argument(0 <= what && what <= 3);
        List<Integer> ones = possibleOnes(cell);
        int first = ones.isEmpty() ? -1 : ones.get(0);
        return new int[] {now.board[cell], now.fixed[cell] ? 1 : 0, ones.size(), first}[what];
    }

    int color(int cell, int side, boolean below) {
        checkCell(cell);
        index(0 <= side && side <= 3);
        return now.board[cell] == -1 ? -1 : seen(now.board[cell], side, below);
    }

    private boolean looksLike(int tile, int other) {
        for (int way = 0; way < 8; way++) {
            boolean same = true;
            for (int side = 0; side < 4; side++) {
                same &= seen(8 * tile + way, side, false) == seen(8 * other, side, false);
                same &= seen(8 * tile + way, side, true) == seen(8 * other, side, true);
            }
            if (same) {
                return true;
            }
        }
        return false;
    }

    int tile(int tile, int what) {
        index(0 <= tile && tile < now.tiles.size());
        argument(0 <= what && what <= 3);
        int like = 0;
        while (!looksLike(tile, like)) {
            like++;
        }
        int[][] faces = now.tiles.get(tile);
        return new int[] {number(faces[0]), number(faces[1]), where(tile), like}[what];
    }

    int count(int what) {
        argument(0 <= what && what <= 9);
        int fixed = 0;
        int alikeAbove = 0;
        int alikeBelow = 0;
        int misfits = 0;
        for (int cell = 0; cell < now.board.length; cell++) {
            fixed += now.fixed[cell] ? 1 : 0;
            misfits += now.board[cell] != -1 && misfit(cell, now.board[cell]) != 0 ? 1 : 0;
            for (int side = 1; side <= 2 && now.board[cell] != -1; side++) {
                int near = next(cell, side);
                if (near != -1 && now.board[near] != -1) {
                    alikeAbove += differ(now.board[cell], side, now.board[near], false) ? 0 : 1;
                    alikeBelow += differ(now.board[cell], side, now.board[near], true) ? 0 : 1;
                }
            }
        }
        return new int[] {now.rows, now.columns, now.tiles.size(), empty(), fixed, now.rule,
            alikeAbove, alikeBelow, misfits, saved.size()}[what];
    }

    int layings(int howMany, int what) {
        argument(1 <= howMany && howMany <= 50 && 0 <= what && what <= 2);
        search(howMany);
        return new int[] {found, steps, limit ? 1 : 0}[what];
    }

    int hint() {
        int best = -1;
        int fewest = 1000;
        for (int cell = 0; cell < now.board.length; cell++) {
            List<Integer> ones = possibleOnes(cell);
            if (!ones.isEmpty() && ones.size() < fewest) {
                fewest = ones.size();
                best = 100 * cell + ones.get(0);
            }
        }
        return best;
    }

    int starts() {
        if (empty() > 0) {
            return -1;
        }
        int[] all = now.board.clone();
        int best = -1;
        for (int mask = 0; mask < 1 << all.length; mask++) {
            boolean better = best == -1 || Integer.bitCount(mask) < Integer.bitCount(best);
            if (Integer.bitCount(mask) <= 2 && better) {
                for (int cell = 0; cell < all.length; cell++) {
                    now.board[cell] = (mask >> cell & 1) == 1 ? all[cell] : -1;
                }
                search(2);
                if (found == 1 && !limit) {
                    best = mask;
                }
            }
        }
        now.board = all;
        return best;
    }

    int why(int cell, int placing) {
        checkCell(cell);
        checkPlacing(placing);
        if (now.board[cell] != -1) {
            return 1;
        }
        return laid(placing / 8) ? 2 : misfit(cell, placing);
    }

    double fitting() {
        int pairs = 0;
        for (int cell = 0; cell < now.board.length; cell++) {
            for (int side = 1; side <= 2 && now.board[cell] != -1; side++) {
                int near = next(cell, side);
                pairs += near != -1 && now.board[near] != -1 ? 1 : 0;
            }
        }
        return pairs == 0 ? 1.0 : (double) (count(6) + count(7)) / (2 * pairs);
    }

    long digest() {
        List<Long> values = new ArrayList<>();
        for (int what = 0; what <= 9; what++) {
            values.add((long) count(what));
        }
        for (int cell = 0; cell < now.board.length; cell++) {
            for (int what = 0; what <= 3; what++) {
                values.add((long) cell(cell, what));
            }
            for (int i = 0; i < 8; i++) {
                values.add((long) color(cell, i % 4, i >= 4));
            }
        }
        for (int tile = 0; tile < now.tiles.size(); tile++) {
            for (int what = 0; what <= 3; what++) {
                values.add((long) tile(tile, what));
            }
        }
        for (int what = 0; what <= 2; what++) {
            values.add((long) layings(3, what));
        }
        values.add((long) hint());
        values.add(Double.doubleToLongBits(fitting()));
        values.add((long) buffer.length());
        for (char code : buffer.toCharArray()) {
            values.add((long) code);
        }
        long hash = 2137;
        for (long value : values) {
            hash = 31 * hash + value;
        }
        return hash;
    }
}
