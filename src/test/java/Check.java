import java.util.HashSet;
import java.util.Set;

/** Collects what is wrong in a test program, and ends it with exit code 1 if anything was. */
final class Check {
    static final Class<?> ARGUMENT = IllegalArgumentException.class;
    static final Class<?> STATE = IllegalStateException.class;
    static final Class<?> INDEX = IndexOutOfBoundsException.class;

    interface Call {
        void run();
    }

    /** Makes an object with calls of its own, the same ones each time. */
    interface Make {
        TwoFacedTiles make();
    }

    interface Use {
        void on(TwoFacedTiles tiles);
    }

    private final Set<String> names = new HashSet<>();
    private String running = "";
    private int checks = 0;
    private int wrong = 0;

    /** A test of its own for one case of a sentence of the document. */
    void test(String name, Call call) {
        running = name;
        if (!names.add(name)) {
            fail("another test has the same name");
        }
        Class<?> thrown = thrownBy(call);
        if (thrown != null) {
            fail("threw " + thrown);
        }
        running = "";
    }

    /** A test of its own: the call throws just this exception and changes nothing. */
    void refused(String name, Class<?> due, Make make, Use call) {
        test(name, () -> {
            TwoFacedTiles used = make.make();
            Class<?> thrown = thrownBy(() -> call.on(used));
            checks++;
            if (thrown != due) {
                fail("threw " + thrown + ", due is " + due);
            }
            sameToTheOldestState(used, make.make());
        });
    }

    /** What a twin tells is due, now and after each undo. */
    void sameToTheOldestState(TwoFacedTiles used, TwoFacedTiles twin) {
        same("digest", used.digest(), twin.digest());
        for (int saved = twin.count(9); saved > 0; saved--) {
            same("undo", used.undo(), twin.undo());
            same("digest after undo", used.digest(), twin.digest());
        }
    }

    void same(String what, long got, long due) {
        checks++;
        if (got != due) {
            fail(what + " answered " + got + ", due is " + due);
        }
    }

    void sameDouble(String what, double got, double due) {
        checks++;
        if (Double.doubleToLongBits(got) != Double.doubleToLongBits(due)) {
            fail(what + " answered " + got + ", due is " + due);
        }
    }

    /** The call throws just this exception and leaves everything as it was. */
    void refuses(String what, TwoFacedTiles tiles, Class<?> due, Call call) {
        checks++;
        long before = tiles.digest();
        Class<?> thrown = thrownBy(call);
        if (thrown != due) {
            fail(what + " threw " + thrown + ", due is " + due);
        }
        if (tiles.digest() != before) {
            fail(what + " changed something although it threw");
        }
    }

    void refusesArgument(String what, TwoFacedTiles tiles, Call call) {
        refuses(what, tiles, ARGUMENT, call);
    }

    void refusesState(String what, TwoFacedTiles tiles, Call call) {
        refuses(what, tiles, STATE, call);
    }

    void refusesIndex(String what, TwoFacedTiles tiles, Call call) {
        refuses(what, tiles, INDEX, call);
    }

    void fail(String message) {
        wrong++;
        System.out.println("wrong: " + (running.isEmpty() ? "" : running + ": ") + message);
    }

    void end() {
        System.out.println((names.isEmpty() ? "" : names.size() + " tests, ") + checks + " checks, "
            + wrong + " wrong");
        if (wrong != 0) {
            System.exit(1);
        }
    }

    static Class<?> thrownBy(Call call) {
        try {
            call.run();
            return null;
        } catch (RuntimeException e) {
            return e.getClass();
        }
    }
}
