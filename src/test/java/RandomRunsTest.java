import java.util.Random;
import java.util.concurrent.Callable;

/** Random runs of at most 512 calls, each answer compared with the model's. The seed is fixed. */
public final class RandomRunsTest {
    private static final int RUNS = 6000;
    private static final int CALLS = 512;
    private static final int[] WILD = {Integer.MIN_VALUE, -2, -1, 0, 7, 8, 9, 31, 32, 64, Integer.MAX_VALUE};

    private final Random random;
    private final GroupDesk desk;
    private final Model model;
    private final int groups;
    private final int members;

    private RandomRunsTest(long seed) {
        random = new Random(seed);
        int logs = random.nextInt(12) - 1;
        desk = new GroupDesk(logs);
        model = new Model(logs);
        groups = random.nextBoolean() ? 1 : 1 + random.nextInt(8);
        members = 1 + random.nextInt(8);
    }

    public static void main(String[] args) {
        for (long seed = 0; seed < RUNS; seed++) {
            RandomRunsTest run = new RandomRunsTest(seed);
            for (int call = 0; call < CALLS; call++) {
                run.step("seed " + seed + ", call " + call + ": ");
            }
        }
        Check.done();
    }

    private int pick(int bound) {
        return random.nextInt(60) == 0 ? WILD[random.nextInt(WILD.length)] : random.nextInt(bound);
    }

    private int pickGeneration(int group) {
        int now = 0 <= group && group <= 7 ? model.group(group, 0) : 0;
        return random.nextInt(5) == 0 ? pick(4) : now;
    }

    private int pickTicks() {
        int kind = random.nextInt(40);
        return kind == 0 ? random.nextInt(220) - 5 : kind < 8 ? 18 + random.nextInt(15) : 1 + random.nextInt(6);
    }

    private int pickRoom() {
        int kind = random.nextInt(20);
        return kind == 0 ? 99990 + random.nextInt(20) : kind == 1 ? WILD[random.nextInt(WILD.length)] : random.nextInt(5);
    }

    private void step(String where) {
        int g = pick(groups);
        int m = pick(members);
        int gen = pickGeneration(g);
        int log = pick(8);
        int what = pick(5);
        int n = pickTicks();
        int room = pickRoom();
        long offset = random.nextInt(40) == 0 ? random.nextLong() : random.nextInt(1000);
        switch (random.nextInt(24)) {
            case 0, 1, 2, 3, 4, 5 -> same(where + "join", () -> desk.join(g, m), () -> model.join(g, m));
            case 6 -> same(where + "leave", () -> desk.leave(g, m), () -> model.leave(g, m));
            case 7, 8, 9 -> same(where + "beat", () -> desk.beat(g, m, gen), () -> model.beat(g, m, gen));
            case 10, 11, 12 -> same(where + "commit", () -> desk.commit(g, m, gen, log, offset),
                    () -> model.commit(g, m, gen, log, offset));
            case 13 -> same(where + "committed", () -> desk.committed(g, log), () -> model.committed(g, log));
            case 14, 15, 16, 17 -> same(where + "group", () -> desk.group(g, what), () -> model.group(g, what));
            case 18, 19 -> same(where + "share", () -> desk.share(g, m), () -> model.share(g, m));
            case 20 -> same(where + "room", () -> desk.room(room), () -> model.room(room));
            case 21, 22 -> same(where + "ticks", () -> desk.ticks(n), () -> model.ticks(n));
            default -> {
                if (random.nextInt(8) == 0) {
                    same(where + "restart", desk::restart, model::restart);
                } else {
                    same(where + "notes", desk::notes, model::notes);
                }
            }
        }
    }

    private static void same(String call, Callable<? extends Number> got, Callable<? extends Number> want) {
        long due;
        try {
            due = want.call().longValue();
        } catch (IllegalArgumentException e) {
            Check.illegal(call, got);
            return;
        } catch (Exception e) {
            throw new AssertionError("the model broke at " + call, e);
        }
        try {
            Check.due(call, got.call().longValue(), due);
        } catch (Exception e) {
            Check.threw(call, e, due);
        }
    }
}
