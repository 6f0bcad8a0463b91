/**
 * A test for each case of each boundary that the document names for undo (its chapter "Undo" and
 * promise 17) and for calls that throw.
 */
public final class UndoEdgesTest {
    private static final Check CHECK = new Check();
    private static final String FIVE = "1111/1111;1111/1111;1111/1111;1111/1111;1111/1111";

    private interface Named {
        void of(String name, Check.Use call);
    }

    public static void main(String[] args) {
        eachUndoableCall(UndoEdgesTest::savesOneState);
        eachUndoableCall(UndoEdgesTest::dropsTheOldest);
        eachUndoableCall(UndoEdgesTest::isUndone);
        savesWithoutAChange();
        eachOtherCall(UndoEdgesTest::savesNothing);
        eightStates();
        ringOfStates();
        undoWithoutStates();
        undoRestores();
        undoLeavesTheBuffer();
        boardAndTilesRefused();
        layingsRefused();
        textsRefused();
        questionsRefused();
        lastCall();
        CHECK.end();
    }

    /** Four saved states: new, with five tiles, with one laid, with two laid; then one fixed. */
    private static TwoFacedTiles four() {
        TwoFacedTiles x = Puzzles.written(FIVE);
        x.load();
        x.lay(0, 0);
        x.lay(3, 8);
        x.fix(3);
        Puzzles.write(x, "1111/2222");
        return x;
    }

    private static TwoFacedTiles eight() {
        TwoFacedTiles x = four();
        for (int i = 0; i < 4; i++) {
            x.setRule(0);
        }
        return x;
    }

    private static void eachUndoableCall(Named named) {
        named.of("begin", x -> x.begin(3, 4));
        named.of("addTile", x -> x.addTile(12, 34));
        named.of("dropTile", x -> x.dropTile());
        named.of("setRule", x -> x.setRule(2));
        named.of("cut", x -> x.cut(12345, 9));
        named.of("lay", x -> x.lay(1, 16));
        named.of("take", x -> x.take(0));
        named.of("fix", x -> x.fix(0));
        named.of("fix of a fixed one", x -> x.fix(3));
        named.of("clear", x -> x.clear());
        named.of("turnOver", x -> x.turnOver());
        named.of("solve", x -> x.solve());
        named.of("load", x -> x.load());
    }

    private static void savesOneState(String name, Check.Use call) {
        CHECK.test("T undo: " + name + " saves one state", () -> {
            TwoFacedTiles x = four();
            call.on(x);
            CHECK.same("saved", x.count(9), 5);
        });
    }

    private static void dropsTheOldest(String name, Check.Use call) {
        CHECK.test("T undo: " + name + " drops the oldest of eight", () -> {
            TwoFacedTiles x = eight();
            call.on(x);
            CHECK.same("saved", x.count(9), 8);
            for (int left = 7; left >= 0; left--) {
                CHECK.same("undo", x.undo(), left);
            }
            CHECK.same("tiles in the second one", x.count(2), 5);
            CHECK.same("empty cells there", x.count(3), 4);
            CHECK.refusesState("a ninth undo", x, () -> x.undo());
        });
    }

    private static void isUndone(String name, Check.Use call) {
        CHECK.test("T undo: " + name + " is undone", () -> {
            TwoFacedTiles x = four();
            call.on(x);
            CHECK.same("undo", x.undo(), 4);
            sameWithoutBuffer(x, four());
        });
        CHECK.test("T undo: " + name + " is undone, when there were seven", () -> {
            TwoFacedTiles x = eight();
            x.undo();
            call.on(x);
            CHECK.same("undo", x.undo(), 7);
            TwoFacedTiles twin = eight();
            twin.undo();
            sameWithoutBuffer(x, twin);
        });
    }

    private static void sameWithoutBuffer(TwoFacedTiles x, TwoFacedTiles twin) {
        x.clearBuffer();
        twin.clearBuffer();
        CHECK.sameToTheOldestState(x, twin);
    }

    private static void savesWithoutAChange() {
        savesThough("begin of the same size", new TwoFacedTiles(), x -> x.begin(2, 2));
        savesThough("setRule of the same rule", new TwoFacedTiles(), x -> x.setRule(0));
        savesThough("clear of nothing", new TwoFacedTiles(), x -> x.clear());
        savesThough("turnOver of nothing", new TwoFacedTiles(), x -> x.turnOver());
        savesThough("solve of a full board", Puzzles.full(1, 1), x -> x.solve());
    }

    private static void savesThough(String name, TwoFacedTiles x, Check.Use call) {
        CHECK.test("T undo: " + name + " saves a state", () -> {
            int saved = x.count(9);
            call.on(x);
            CHECK.same("saved", x.count(9), saved + 1);
            CHECK.same("undo", x.undo(), saved);
        });
    }

    private static void eachOtherCall(Named named) {
        named.of("append", x -> x.append('1'));
        named.of("clearBuffer", x -> x.clearBuffer());
        named.of("firstError", x -> x.firstError());
        for (int what = 0; what < 4; what++) {
            int asked = what;
            named.of("cell of " + what, x -> x.cell(0, asked));
            named.of("tile of " + what, x -> x.tile(0, asked));
        }
        for (int what = 0; what < 10; what++) {
            int asked = what;
            named.of("count of " + what, x -> x.count(asked));
        }
        for (int what = 0; what < 3; what++) {
            int asked = what;
            named.of("layings of " + what, x -> x.layings(50, asked));
        }
        named.of("color above", x -> x.color(0, 0, false));
        named.of("color below", x -> x.color(0, 0, true));
        named.of("hint", x -> x.hint());
        named.of("starts", x -> x.starts());
        named.of("why", x -> x.why(1, 16));
        named.of("fitting", x -> x.fitting());
        named.of("digest", x -> x.digest());
    }

    private static void savesNothing(String name, Check.Use call) {
        CHECK.test("T undo: " + name + " saves nothing", () -> {
            TwoFacedTiles x = four();
            call.on(x);
            CHECK.same("saved", x.count(9), 4);
            sameWithoutBuffer(x, four());
        });
        CHECK.test("T undo: " + name + " drops none of eight", () -> {
            TwoFacedTiles x = eight();
            call.on(x);
            CHECK.same("saved", x.count(9), 8);
            sameWithoutBuffer(x, eight());
        });
    }

    private static TwoFacedTiles afterTiles(int tiles) {
        TwoFacedTiles x = new TwoFacedTiles();
        for (int tile = 0; tile < tiles; tile++) {
            x.addTile(tile, 100 * tile);
        }
        return x;
    }

    private static void eightStates() {
        for (int calls = 0; calls <= 12; calls++) {
            int made = calls;
            int kept = Math.min(8, calls);
            CHECK.test("T undo: states after " + made + " calls",
                () -> CHECK.same("saved", afterTiles(made).count(9), kept));
            CHECK.test("T undo: back to the oldest after " + made + " calls", () -> {
                TwoFacedTiles x = afterTiles(made);
                for (int left = kept - 1; left >= 0; left--) {
                    CHECK.same("undo", x.undo(), left);
                    CHECK.same("tiles", x.count(2), made - kept + left);
                }
            });
            CHECK.test("P17 undo: one more than there are states after " + made + " calls", () -> {
                TwoFacedTiles x = afterTiles(made);
                for (int i = 0; i < kept; i++) {
                    x.undo();
                }
                CHECK.refusesState("undo", x, () -> x.undo());
            });
        }
    }

    private static void ringOfStates() {
        for (int undone = 1; undone <= 8; undone++) {
            int back = undone;
            CHECK.test("T undo: nine calls, " + back + " back, then eight more", () -> {
                TwoFacedTiles x = afterTiles(9);
                for (int i = 0; i < back; i++) {
                    x.undo();
                }
                for (int i = 0; i < 8; i++) {
                    CHECK.same("setRule", x.setRule((i + 1) % 3), i % 3);
                    CHECK.same("saved", x.count(9), Math.min(8, 9 - back + i));
                }
                for (int i = 7; i >= 0; i--) {
                    CHECK.same("undo", x.undo(), i);
                    CHECK.same("rule", x.count(5), i % 3);
                    CHECK.same("tiles", x.count(2), 9 - back);
                }
                CHECK.refusesState("a ninth undo", x, () -> x.undo());
            });
        }
        CHECK.test("T undo: a hundred calls, the latest eight are kept", () -> {
            TwoFacedTiles x = new TwoFacedTiles();
            for (int i = 0; i < 100; i++) {
                x.begin(1 + i % 3, 1 + i % 4);
            }
            for (int i = 98; i >= 91; i--) {
                x.undo();
                CHECK.same("rows", x.count(0), 1 + i % 3);
                CHECK.same("columns", x.count(1), 1 + i % 4);
            }
            CHECK.refusesState("a ninth undo", x, () -> x.undo());
        });
        CHECK.test("P17 undo: a second undo goes on backwards", () -> {
            TwoFacedTiles x = afterTiles(3);
            x.undo();
            x.undo();
            CHECK.same("tiles", x.count(2), 1);
        });
    }

    private static void undoWithoutStates() {
        CHECK.refused("P17 undo: a new object", Check.STATE, TwoFacedTiles::new, x -> x.undo());
        CHECK.refused("P17 undo: only a buffer was written", Check.STATE,
            () -> Puzzles.written(FIVE), x -> x.undo());
        CHECK.refused("P17 undo: all calls threw", Check.STATE, () -> {
            TwoFacedTiles x = new TwoFacedTiles();
            CHECK.refusesState("dropTile", x, () -> x.dropTile());
            CHECK.refusesArgument("begin", x, () -> x.begin(0, 0));
            return x;
        }, x -> x.undo());
        CHECK.refused("P17 undo: after an undo of the only one", Check.STATE, () -> {
            TwoFacedTiles x = afterTiles(1);
            x.undo();
            return x;
        }, x -> x.undo());
    }

    private static void undoRestores() {
        String p = "P17 undo restores ";
        CHECK.test(p + "the size", () -> {
            TwoFacedTiles x = Puzzles.withTiles(3, 4);
            x.begin(1, 2);
            x.undo();
            CHECK.same("rows", x.count(0), 3);
            CHECK.same("columns", x.count(1), 4);
            CHECK.same("empty cells", x.count(3), 12);
        });
        CHECK.test(p + "a tile that lay", () -> {
            TwoFacedTiles x = Puzzles.alike(2, 2, 1, 1, 1);
            x.lay(2, 7);
            x.take(2);
            x.lay(1, 3);
            x.undo();
            x.undo();
            CHECK.same("cell 2", x.cell(2, 0), 7);
            CHECK.same("cell 1", x.cell(1, 0), -1);
            CHECK.same("where", x.tile(0, 2), 2);
        });
        CHECK.test(p + "the faces of tiles that were cut away", () -> {
            TwoFacedTiles x = Puzzles.withTiles(3, 4, 1234, 5678);
            x.cut(1, 1);
            x.undo();
            CHECK.same("tiles", x.count(2), 1);
            CHECK.same("face 0", x.tile(0, 0), 1234);
            CHECK.same("face 1", x.tile(0, 1), 5678);
        });
        CHECK.test(p + "the faces of a tile that was dropped, though another came", () -> {
            TwoFacedTiles x = Puzzles.withTiles(2, 2, 1234, 5678);
            x.dropTile();
            x.addTile(1, 2);
            x.undo();
            x.undo();
            CHECK.same("face 0", x.tile(0, 0), 1234);
            CHECK.same("face 1", x.tile(0, 1), 5678);
        });
        CHECK.test(p + "a fixed cell", () -> {
            TwoFacedTiles x = Puzzles.full(1, 2);
            x.fix(1);
            x.begin(1, 2);
            x.undo();
            CHECK.same("cell 1", x.cell(1, 1), 1);
            CHECK.same("cell 0", x.cell(0, 1), 0);
        });
        CHECK.test(p + "the rule", () -> {
            TwoFacedTiles x = new TwoFacedTiles();
            x.setRule(2);
            x.setRule(1);
            x.undo();
            CHECK.same("rule", x.count(5), 2);
        });
    }

    private static void undoLeavesTheBuffer() {
        String p = "P17 undo leaves the buffer: ";
        CHECK.test(p + "characters that came later stay", () -> {
            TwoFacedTiles x = afterTiles(1);
            x.append('1');
            x.undo();
            CHECK.same("clearBuffer", x.clearBuffer(), 1);
        });
        CHECK.test(p + "cleared ones do not come back", () -> {
            TwoFacedTiles x = Puzzles.written("1234");
            x.addTile(1, 1);
            x.clearBuffer();
            x.undo();
            CHECK.same("clearBuffer", x.clearBuffer(), 0);
        });
        CHECK.test(p + "loaded ones do not come back", () -> {
            TwoFacedTiles x = Puzzles.written(FIVE);
            x.load();
            x.undo();
            CHECK.same("tiles", x.count(2), 0);
            CHECK.same("clearBuffer", x.clearBuffer(), 0);
        });
    }

    /** The call throws, with eight states saved: none is dropped and none comes. */
    private static void throwsAt(String name, Class<?> due, Check.Use call) {
        CHECK.refused("T exceptions: " + name + " changes nothing", due, UndoEdgesTest::eight,
            call);
    }

    private static void boardAndTilesRefused() {
        throwsAt("begin of wrong rows", Check.ARGUMENT, x -> x.begin(4, 4));
        throwsAt("begin of wrong columns", Check.ARGUMENT, x -> x.begin(3, 5));
        throwsAt("addTile of a wrong face", Check.ARGUMENT, x -> x.addTile(10000, 0));
        throwsAt("addTile of a wrong other", Check.ARGUMENT, x -> x.addTile(0, -1));
        CHECK.refused("T exceptions: addTile of a 13th changes nothing", Check.STATE,
            () -> afterTiles(12), x -> x.addTile(0, 0));
        CHECK.refused("T exceptions: dropTile of none changes nothing", Check.STATE, () -> {
            TwoFacedTiles x = afterTiles(4);
            for (int i = 0; i < 4; i++) {
                x.dropTile();
            }
            return x;
        }, x -> x.dropTile());
        CHECK.refused("T exceptions: dropTile of a laid one changes nothing", Check.STATE, () -> {
            TwoFacedTiles x = eight();
            x.lay(1, 33);
            return x;
        }, x -> x.dropTile());
        throwsAt("setRule of a wrong rule", Check.ARGUMENT, x -> x.setRule(3));
        throwsAt("cut of a wrong seed", Check.ARGUMENT, x -> x.cut(0, 9));
        throwsAt("cut of wrong colors", Check.ARGUMENT, x -> x.cut(1, 10));
    }

    private static void layingsRefused() {
        throwsAt("lay in no cell", Check.INDEX, x -> x.lay(4, 16));
        throwsAt("lay of no tile", Check.INDEX, x -> x.lay(1, 40));
        throwsAt("lay in a cell that is not empty", Check.STATE, x -> x.lay(0, 16));
        throwsAt("lay of a laid tile", Check.STATE, x -> x.lay(1, 0));
        throwsAt("take of no cell", Check.INDEX, x -> x.take(-1));
        throwsAt("take of an empty cell", Check.STATE, x -> x.take(1));
        throwsAt("take of a fixed tile", Check.STATE, x -> x.take(3));
        throwsAt("fix of no cell", Check.INDEX, x -> x.fix(4));
        throwsAt("fix of an empty cell", Check.STATE, x -> x.fix(1));
        CHECK.refused("T exceptions: solve that finds none changes nothing", Check.STATE, () -> {
            TwoFacedTiles x = eight();
            x.setRule(1);
            return x;
        }, x -> x.solve());
    }

    private static void textsRefused() {
        throwsAt("append of a wrong code", Check.ARGUMENT, x -> x.append(127));
        CHECK.refused("T exceptions: append of a 61st changes nothing", Check.STATE, () -> {
            TwoFacedTiles x = eight();
            Puzzles.write(x, "1".repeat(51));
            return x;
        }, x -> x.append('1'));
        CHECK.refused("T exceptions: load of a wrong text changes nothing", Check.ARGUMENT, () -> {
            TwoFacedTiles x = eight();
            x.append('1');
            return x;
        }, x -> x.load());
        CHECK.refused("T exceptions: load of too many tiles changes nothing", Check.STATE, () -> {
            TwoFacedTiles x = afterTiles(12);
            Puzzles.write(x, FIVE);
            return x;
        }, x -> x.load());
    }

    private static void questionsRefused() {
        throwsAt("cell of no cell", Check.INDEX, x -> x.cell(4, 0));
        throwsAt("cell of a wrong what", Check.ARGUMENT, x -> x.cell(0, 4));
        throwsAt("color of no cell", Check.INDEX, x -> x.color(4, 0, true));
        throwsAt("color of no side", Check.INDEX, x -> x.color(0, 4, true));
        throwsAt("tile of no tile", Check.INDEX, x -> x.tile(5, 0));
        throwsAt("tile of a wrong what", Check.ARGUMENT, x -> x.tile(0, 4));
        throwsAt("count of a wrong what", Check.ARGUMENT, x -> x.count(10));
        throwsAt("layings of too many", Check.ARGUMENT, x -> x.layings(51, 0));
        throwsAt("layings of a wrong what", Check.ARGUMENT, x -> x.layings(50, 3));
        throwsAt("why of no cell", Check.INDEX, x -> x.why(4, 0));
        throwsAt("why of no tile", Check.INDEX, x -> x.why(1, 40));
    }

    /** The constructor is no call of the 512. */
    private static void lastCall() {
        CHECK.test("the 512th call", () -> {
            TwoFacedTiles x = new TwoFacedTiles();
            for (int call = 1; call <= 511; call++) {
                CHECK.same("turnOver", x.turnOver(), 0);
            }
            CHECK.same("undo", x.undo(), 7);
        });
    }
}
