/** The objects that tests begin with. */
final class Puzzles {
    private Puzzles() {
    }

    interface Size {
        void of(int rows, int columns);
    }

    /** All sizes that a board can have. */
    static void eachSize(Size size) {
        for (int rows = 1; rows <= 3; rows++) {
            for (int columns = 1; columns <= 4; columns++) {
                size.of(rows, columns);
            }
        }
    }

    /** An empty board and tiles, told as pairs of faces. */
    static TwoFacedTiles withTiles(int rows, int columns, int... faces) {
        TwoFacedTiles x = new TwoFacedTiles();
        x.begin(rows, columns);
        for (int i = 0; i < faces.length; i += 2) {
            x.addTile(faces[i], faces[i + 1]);
        }
        return x;
    }

    static TwoFacedTiles alike(int rows, int columns, int tiles, int face, int other) {
        TwoFacedTiles x = withTiles(rows, columns);
        for (int i = 0; i < tiles; i++) {
            x.addTile(face, other);
        }
        return x;
    }

    /** A full board of tiles that are all alike, tile n in cell n. */
    static TwoFacedTiles full(int rows, int columns) {
        TwoFacedTiles x = alike(rows, columns, rows * columns, 1111, 1111);
        for (int cell = 0; cell < rows * columns; cell++) {
            x.lay(cell, 8 * cell);
        }
        return x;
    }

    static TwoFacedTiles written(String text) {
        TwoFacedTiles x = new TwoFacedTiles();
        write(x, text);
        return x;
    }

    static void write(TwoFacedTiles x, String text) {
        for (int i = 0; i < text.length(); i++) {
            x.append(text.charAt(i));
        }
    }

    /** A face as told for addTile that shows a color at one side, and another at all others. */
    static int front(int side, int color, int others) {
        int face = 0;
        for (int i = 0; i < 4; i++) {
            face = 10 * face + (i == side ? color : others);
        }
        return face;
    }

    /** Likewise for what is seen below: left and right are exchanged. */
    static int back(int side, int color, int others) {
        return front(side == 1 ? 3 : side == 3 ? 1 : side, color, others);
    }
}
