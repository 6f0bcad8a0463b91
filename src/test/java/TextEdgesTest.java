/**
 * A test for each case of each boundary that the document names for the input text and the
 * promises 13 to 16.
 */
public final class TextEdgesTest {
    private static final Check CHECK = new Check();
    private static final String TILE = "1234/5678";
    private static final String SIX = "0000/0001;0000/0002;0000/0003;0000/0004;0000/0005;0000/0006";

    public static void main(String[] args) {
        appendCodes();
        appendSixty();
        clearBuffer();
        errorAtEachPlace();
        errorBesideTheDigits();
        errorOfLengths();
        firstOfSeveralErrors();
        loadIncomplete();
        loadWrong();
        loadCounts();
        loadClears();
        CHECK.end();
    }

    private static TwoFacedTiles sixty() {
        return Puzzles.written("0".repeat(60));
    }

    private static void appendCodes() {
        String p = "P13 append: ";
        int[] wrong = {32, 127, 0, -1, 33 + 256, 33 + 65536, Integer.MIN_VALUE,
            Integer.MAX_VALUE};
        for (int code : wrong) {
            CHECK.refused(p + "code " + code, Check.ARGUMENT, () -> Puzzles.written("1"),
                x -> x.append(code));
            CHECK.refused(p + "code " + code + " when there are 60 characters", Check.ARGUMENT,
                TextEdgesTest::sixty, x -> x.append(code));
        }
        for (int code = 33; code <= 126; code++) {
            int right = code;
            CHECK.test(p + "code " + right,
                () -> CHECK.same("append", new TwoFacedTiles().append(right), 1));
        }
    }

    private static void appendSixty() {
        String p = "P13 append: ";
        CHECK.test(p + "the length, from 1 to 60", () -> {
            TwoFacedTiles x = new TwoFacedTiles();
            for (int length = 1; length <= 60; length++) {
                CHECK.same("append", x.append('5'), length);
            }
        });
        CHECK.refused(p + "a 61st character", Check.STATE, TextEdgesTest::sixty,
            x -> x.append('5'));
        CHECK.test(p + "after a clearing of 60 characters", () -> {
            TwoFacedTiles x = sixty();
            x.clearBuffer();
            CHECK.same("append", x.append('5'), 1);
        });
        CHECK.test(p + "a character after a syntax error", () -> {
            TwoFacedTiles x = Puzzles.written("!");
            CHECK.same("append", x.append('5'), 2);
        });
    }

    private static void clearBuffer() {
        String p = "P14 clearBuffer: ";
        CHECK.test(p + "nothing in it",
            () -> CHECK.same("clearBuffer", new TwoFacedTiles().clearBuffer(), 0));
        CHECK.test(p + "one character",
            () -> CHECK.same("clearBuffer", Puzzles.written("~").clearBuffer(), 1));
        CHECK.test(p + "60 characters",
            () -> CHECK.same("clearBuffer", sixty().clearBuffer(), 60));
        CHECK.test(p + "again", () -> {
            TwoFacedTiles x = sixty();
            x.clearBuffer();
            CHECK.same("clearBuffer", x.clearBuffer(), 0);
        });
        CHECK.test(p + "no error any more", () -> {
            TwoFacedTiles x = Puzzles.written("1!");
            x.clearBuffer();
            x.append('1');
            CHECK.same("firstError", x.firstError(), 1);
        });
    }

    private static void error(String name, String text, int due) {
        CHECK.test("P15 firstError: " + name,
            () -> CHECK.same("firstError", Puzzles.written(text).firstError(), due));
    }

    private static void errorAtEachPlace() {
        String right = TILE + ";" + TILE + ";0";
        for (int at = 0; at < right.length(); at++) {
            boolean isDigit = right.charAt(at) >= '0' && right.charAt(at) <= '9';
            for (char other : new char[] {'5', '/', ';', '!', '~', 'a'}) {
                boolean stays = other == right.charAt(at) || isDigit && other == '5';
                error("'" + other + "' at " + at, right.substring(0, at) + other,
                    stays ? at + 1 : at);
            }
        }
    }

    /** The characters just outside of those that are right. */
    private static void errorBesideTheDigits() {
        error("'0' for a color", "0", 1);
        error("'9' for a color", "9", 1);
        error("the character before '0' for a color", "/", 0);
        error("the character behind '9' for a color", ":", 0);
        error("the character before '/'", "1234.", 4);
        error("the character behind '/'", "12340", 4);
        error("the character before ';'", TILE + ":", 9);
        error("the character behind ';'", TILE + "<", 9);
    }

    private static void errorOfLengths() {
        error("an empty buffer", "", 0);
        for (int length = 1; length <= 60; length++) {
            error("the first " + length + " of a longer text",
                (SIX + ";" + TILE).substring(0, length), length);
        }
        error("the 60th character is wrong", SIX + "5", 59);
        error("the 59th character is wrong", SIX.substring(0, 58) + ";;", 58);
        CHECK.test("P15 firstError: more tiles than can be are no error", () -> {
            TwoFacedTiles x = Puzzles.alike(2, 2, 12, 1, 1);
            Puzzles.write(x, TILE);
            CHECK.same("firstError", x.firstError(), 9);
        });
    }

    private static void firstOfSeveralErrors() {
        error("all characters are wrong", "!!!", 0);
        error("the second of two is no matter", "12!4!5678", 2);
        error("right ones behind a wrong one do not help", "x" + TILE, 0);
        error("a face too long", "12345/678", 4);
        error("a face too short", "123/45678", 3);
        error("a second face too short", "1234/567;", 8);
        error("two ';'", TILE + ";;", 10);
        error("';' first", ";" + TILE, 0);
    }

    private static void loadIncomplete() {
        String two = TILE + ";" + TILE;
        for (int length = 0; length < two.length(); length++) {
            String part = two.substring(0, length);
            if (length != TILE.length()) {
                CHECK.refused("P16 load: the first " + length + " of two tiles", Check.ARGUMENT,
                    () -> Puzzles.written(part), x -> x.load());
            }
        }
        CHECK.refused("P16 load: six tiles and ';'", Check.ARGUMENT,
            () -> Puzzles.written(SIX + ";"), x -> x.load());
        CHECK.refused("P16 load: after a load that cleared the buffer", Check.ARGUMENT, () -> {
            TwoFacedTiles x = Puzzles.written(TILE);
            x.load();
            return x;
        }, x -> x.load());
    }

    private static void loadWrong() {
        for (int at = 0; at < TILE.length(); at++) {
            String text = TILE.substring(0, at) + "x" + TILE.substring(at + 1);
            CHECK.refused("P16 load: wrong at " + at, Check.ARGUMENT,
                () -> Puzzles.written(text), x -> x.load());
            CHECK.refused("P16 load: the second tile wrong at " + at, Check.ARGUMENT,
                () -> Puzzles.written(TILE + ";" + text), x -> x.load());
        }
        CHECK.refused("P16 load: wrong between two tiles", Check.ARGUMENT,
            () -> Puzzles.written(TILE + "," + TILE), x -> x.load());
        CHECK.refused("P16 load: wrong behind a tile", Check.ARGUMENT,
            () -> Puzzles.written(TILE + "!"), x -> x.load());
        CHECK.refused("P16 load: wrong, and there would be 13 tiles", Check.ARGUMENT,
            () -> beforeLoad(12, "1234/567x"), x -> x.load());
        CHECK.refused("P16 load: incomplete, and there would be 13 tiles", Check.ARGUMENT,
            () -> beforeLoad(11, TILE + ";" + TILE + ";"), x -> x.load());
        CHECK.refused("P16 load: nothing, and there are 12 tiles", Check.ARGUMENT,
            () -> beforeLoad(12, ""), x -> x.load());
    }

    private static TwoFacedTiles beforeLoad(int tiles, String text) {
        TwoFacedTiles x = Puzzles.alike(2, 2, tiles, 9, 9);
        Puzzles.write(x, text);
        return x;
    }

    private static void loadCounts() {
        CHECK.test("P16 load: one tile to none",
            () -> CHECK.same("load", beforeLoad(0, TILE).load(), 1));
        CHECK.test("P16 load: six tiles to none",
            () -> CHECK.same("load", beforeLoad(0, SIX).load(), 6));
        CHECK.test("P16 load: one tile to eleven",
            () -> CHECK.same("load", beforeLoad(11, TILE).load(), 12));
        CHECK.test("P16 load: six tiles to six",
            () -> CHECK.same("load", beforeLoad(6, SIX).load(), 12));
        CHECK.refused("P16 load: one tile to twelve", Check.STATE,
            () -> beforeLoad(12, TILE), x -> x.load());
        CHECK.refused("P16 load: two tiles to eleven", Check.STATE,
            () -> beforeLoad(11, TILE + ";" + TILE), x -> x.load());
        CHECK.refused("P16 load: six tiles to seven", Check.STATE,
            () -> beforeLoad(7, SIX), x -> x.load());
        CHECK.test("P16 load: the tiles come in the text's order, behind those there are", () -> {
            TwoFacedTiles x = beforeLoad(6, SIX);
            x.load();
            for (int tile = 6; tile < 12; tile++) {
                CHECK.same("face 0", x.tile(tile, 0), 0);
                CHECK.same("face 1", x.tile(tile, 1), tile - 5);
                CHECK.same("where", x.tile(tile, 2), -1);
            }
            CHECK.same("what there was", x.tile(5, 0), 9);
        });
        for (int face : new int[] {0, 9999, 1, 1000}) {
            String told = String.format("%04d", face);
            CHECK.test("P16 load: face 0 is " + told, () -> {
                TwoFacedTiles x = beforeLoad(0, told + "/1234");
                x.load();
                CHECK.same("face 0", x.tile(0, 0), face);
                CHECK.same("face 1", x.tile(0, 1), 1234);
            });
            CHECK.test("P16 load: face 1 is " + told, () -> {
                TwoFacedTiles x = beforeLoad(0, "1234/" + told);
                x.load();
                CHECK.same("face 0", x.tile(0, 0), 1234);
                CHECK.same("face 1", x.tile(0, 1), face);
            });
        }
    }

    private static void loadClears() {
        CHECK.test("P16 load: the buffer is cleared", () -> {
            TwoFacedTiles x = beforeLoad(0, SIX);
            x.load();
            CHECK.same("clearBuffer", x.clearBuffer(), 0);
        });
        CHECK.test("P16 load: one state is saved for all its tiles", () -> {
            TwoFacedTiles x = beforeLoad(0, SIX);
            x.load();
            CHECK.same("saved", x.count(9), 2);
            x.undo();
            CHECK.same("tiles", x.count(2), 0);
        });
        CHECK.test("P16 load: refused as incomplete, it can be made complete", () -> {
            TwoFacedTiles x = beforeLoad(0, "1234/567");
            CHECK.refusesArgument("load", x, () -> x.load());
            x.append('8');
            CHECK.same("load", x.load(), 1);
            CHECK.same("face 1", x.tile(0, 1), 5678);
        });
        CHECK.test("P16 load: refused as too many, it can be loaded after dropTile", () -> {
            TwoFacedTiles x = beforeLoad(12, TILE);
            CHECK.refusesState("load", x, () -> x.load());
            x.dropTile();
            CHECK.same("load", x.load(), 12);
        });
    }
}
