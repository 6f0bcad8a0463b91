import java.util.Random;

/** Long runs of calls, each answer compared with that of the Model; the same runs every time. */
public final class RandomRunsTest {
    private static final int RUNS = 400;
    private static final int CALLS = 512;
    private static final int KINDS = 26;

    private interface Answer {
        Object get();
    }

    private final Random random;
    private final TwoFacedTiles tiles = new TwoFacedTiles();
    private final Model model = new Model();
    private final int run;
    private String call = "";

    private RandomRunsTest(int run) {
        this.run = run;
        this.random = new Random(1000 + run);
    }

    public static void main(String[] args) {
        int runs = args.length > 0 ? Integer.parseInt(args[0]) : RUNS;
        for (int run = 0; run < runs; run++) {
            if (!new RandomRunsTest(run).isRight()) {
                System.exit(1);
            }
        }
        System.out.println(runs + " runs of " + CALLS + " calls answered as the model does");
    }

    private boolean isRight() {
        for (int i = 0; i < CALLS; i++) {
            int kind = random.nextInt(40);
            Answer[] answers = kind >= KINDS ? playful(kind) : answers(kind);
            Object due = answered(answers[1]);
            Object got = answered(answers[0]);
            if (!due.equals(got)) {
                System.out.println("run " + run + ", call " + i + ": " + call + " answered " + got
                    + ", due is " + due);
                return false;
            }
        }
        return true;
    }

    private static Object answered(Answer answer) {
        try {
            return answer.get();
        } catch (IllegalArgumentException | IllegalStateException | IndexOutOfBoundsException e) {
            return e.getClass();
        }
    }

    /** Mostly from low to high, now and then outside, at times far outside. */
    private int near(int low, int high) {
        int chance = random.nextInt(40);
        if (chance == 0) {
            return random.nextBoolean() ? low - 1 : high + 1;
        }
        if (chance == 1) {
            return random.nextInt();
        }
        return low + random.nextInt(high - low + 1);
    }

    private int anyCell() {
        return near(0, model.count(0) * model.count(1) - 1);
    }

    private int anyPlacing() {
        return near(0, Math.max(0, 8 * model.count(2) - 1));
    }

    /** A face of few colors, so that tiles fit at times. */
    private int face() {
        if (random.nextInt(6) == 0) {
            return near(0, 9999);
        }
        int face = 0;
        for (int i = 0; i < 4; i++) {
            face = 10 * face + random.nextInt(2 + run % 3);
        }
        return face;
    }

    private Answer[] both(String told, Answer first, Answer second) {
        call = told;
        return new Answer[] {first, second};
    }

    private Answer[] answers(int kind) {
        int a;
        int b;
        switch (kind) {
            case 0:
                if (random.nextInt(3) != 0) {
                    return answers(6);
                }
                a = near(1, 3);
                b = near(1, 4);
                return both("begin " + a + " " + b, () -> tiles.begin(a, b),
                    () -> model.begin(a, b));
            case 1:
                a = face();
                b = face();
                return both("addTile " + a + " " + b, () -> tiles.addTile(a, b),
                    () -> model.addTile(a, b));
            case 2:
                return both("dropTile", tiles::dropTile, model::dropTile);
            case 3:
                a = near(0, 2);
                return both("setRule " + a, () -> tiles.setRule(a), () -> model.setRule(a));
            case 4:
                if (random.nextInt(3) != 0) {
                    return answers(8);
                }
                a = random.nextBoolean() ? near(1, 999999999) : near(1, 2000);
                b = near(1, 9);
                return both("cut " + a + " " + b, () -> tiles.cut(a, b), () -> model.cut(a, b));
            case 5:
            case 6:
                a = anyCell();
                b = anyPlacing();
                return both("lay " + a + " " + b, () -> tiles.lay(a, b), () -> model.lay(a, b));
            case 7:
                a = anyCell();
                return both("take " + a, () -> tiles.take(a), () -> model.take(a));
            case 8:
                a = anyCell();
                return both("fix " + a, () -> tiles.fix(a), () -> model.fix(a));
            case 9:
                if (random.nextInt(3) != 0) {
                    return answers(12);
                }
                return both("clear", tiles::clear, model::clear);
            case 10:
                return both("turnOver", tiles::turnOver, model::turnOver);
            case 11:
                return both("solve", tiles::solve, model::solve);
            case 12:
                a = random.nextInt(8) == 0 ? near(33, 126) : rightCode();
                return both("append " + a, () -> tiles.append(a), () -> model.append(a));
            default:
                return moreAnswers(kind);
        }
    }

    private Answer[] moreAnswers(int kind) {
        int a;
        int b;
        switch (kind) {
            case 13:
                if (random.nextInt(4) != 0) {
                    return answers(15);
                }
                return both("clearBuffer", tiles::clearBuffer, model::clearBuffer);
            case 14:
                return both("firstError", tiles::firstError, model::firstError);
            case 15:
                return both("load", tiles::load, model::load);
            case 16:
                return both("undo", tiles::undo, model::undo);
            case 17:
                a = anyCell();
                b = near(0, 3);
                return both("cell " + a + " " + b, () -> tiles.cell(a, b),
                    () -> model.cell(a, b));
            case 18:
                a = anyCell();
                b = near(0, 3);
                boolean below = random.nextBoolean();
                return both("color " + a + " " + b, () -> tiles.color(a, b, below),
                    () -> model.color(a, b, below));
            case 19:
                a = near(0, Math.max(0, model.count(2) - 1));
                b = near(0, 3);
                return both("tile " + a + " " + b, () -> tiles.tile(a, b),
                    () -> model.tile(a, b));
            case 20:
                a = near(0, 9);
                return both("count " + a, () -> tiles.count(a), () -> model.count(a));
            case 21:
                a = near(1, 50);
                b = near(0, 2);
                return both("layings " + a + " " + b, () -> tiles.layings(a, b),
                    () -> model.layings(a, b));
            case 22:
                return both("hint", tiles::hint, model::hint);
            case 23:
                a = anyCell();
                b = anyPlacing();
                return both("why " + a + " " + b, () -> tiles.why(a, b), () -> model.why(a, b));
            case 24:
                return both("starts", tiles::starts, model::starts);
            default:
                return both("digest", tiles::digest, model::digest);
        }
    }

    /** Calls that lead somewhere: what the hint tells, a right character, a tile that comes back. */
    private Answer[] playful(int kind) {
        int hint = model.hint();
        if (kind < 30 && hint >= 0) {
            int cell = hint / 100;
            int placing = hint % 100;
            return both("lay by hint " + hint, () -> tiles.lay(cell, placing),
                () -> model.lay(cell, placing));
        }
        if (kind < 36) {
            int code = rightCode();
            return both("append " + (char) code, () -> tiles.append(code),
                () -> model.append(code));
        }
        if (kind == 36) {
            return both("digest", tiles::digest, model::digest);
        }
        if (kind == 37) {
            return both("fitting", tiles::fitting, model::fitting);
        }
        return answers(kind == 38 ? 15 : 24);
    }

    private int rightCode() {
        int at = model.firstError() % 10;
        if (at == 4) {
            return '/';
        }
        return at == 9 ? ';' : '0' + random.nextInt(3);
    }
}
