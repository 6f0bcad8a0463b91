/** Collects what is wrong in a test, and ends it with exit code 1 if anything was. */
final class Check {
    interface Call {
        void run();
    }

    private int checks = 0;
    private int wrong = 0;

    void same(String what, long got, long due) {
        checks++;
        if (got != due) {
            fail(what + " answered " + got + ", due is " + due);
        }
    }

    void sameDouble(String what, double got, double due) {
        checks++;
        if (Double.doubleToLongBits(got) != Double.doubleToLongBits(due)) {
            fail(what + " answered " + got + ", due is " + due);
        }
    }

    /** The call throws just this exception and leaves everything as it was. */
    void refuses(String what, TwoFacedTiles tiles, Class<?> due, Call call) {
        checks++;
        long before = tiles.digest();
        Class<?> thrown = thrownBy(call);
        if (thrown != due) {
            fail(what + " threw " + thrown + ", due is " + due);
        }
        if (tiles.digest() != before) {
            fail(what + " changed something although it threw");
        }
    }

    void refusesArgument(String what, TwoFacedTiles tiles, Call call) {
        refuses(what, tiles, IllegalArgumentException.class, call);
    }

    void refusesState(String what, TwoFacedTiles tiles, Call call) {
        refuses(what, tiles, IllegalStateException.class, call);
    }

    void refusesIndex(String what, TwoFacedTiles tiles, Call call) {
        refuses(what, tiles, IndexOutOfBoundsException.class, call);
    }

    void fail(String message) {
        wrong++;
        System.out.println("wrong: " + message);
    }

    void end() {
        System.out.println(checks + " checks, " + wrong + " wrong");
        if (wrong != 0) {
            System.exit(1);
        }
    }

    static Class<?> thrownBy(Call call) {
        try {
            call.run();
            return null;
        } catch (RuntimeException e) {
            return e.getClass();
        }
    }
}
