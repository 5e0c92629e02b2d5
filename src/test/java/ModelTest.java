import java.util.function.Supplier;

/** Long runs of calls, ordinary and wrong, answered by the program and by the model. */
public final class ModelTest {
    private static final int RUNS = 4000;
    private static final int CALLS = 512;
    private static final int CALL_KINDS = 22;
    private static final int SHOWN_AT_MOST = 20;
    private static final int[] WRONG = {-1, Integer.MIN_VALUE, Integer.MAX_VALUE, 65536, 1001, 32, 24, 17, 11, 4, 3, 0};

    private final LocatorMapper program = new LocatorMapper();
    private final Model model = new Model();
    private final StringBuilder told = new StringBuilder();
    private final boolean isCrowded;
    private final int wrongShare;
    private long seed;
    private boolean differs = false;

    private ModelTest(int run) {
        seed = run * 7919L + 17;
        isCrowded = run % 2 == 0;
        wrongShare = run % 3 == 0 ? 4 : 40;
    }

    public static void main(String[] args) {
        int failed = 0;
        for (int run = 0; run < RUNS; run++) {
            ModelTest test = new ModelTest(run);
            test.play();
            if (test.differs && ++failed <= SHOWN_AT_MOST) {
                System.out.println("run " + run + ":" + test.told);
            }
        }
        System.out.println(RUNS - failed + " passed, " + failed + " failed");
        System.exit(failed == 0 ? 0 : 1);
    }

    private void play() {
        for (int call = 0; call < CALLS && !differs; call++) {
            step();
        }
    }

    /** The same numbers in every session: a fixed rule from a fixed seed. */
    private int below(int bound) {
        seed = seed * 6364136223846793005L + 1442695040888963407L;
        return (int) ((seed >>> 33) % bound);
    }

    private boolean oneIn(int n) {
        return below(n) == 0;
    }

    private int number(int least, int most) {
        if (oneIn(wrongShare)) {
            return WRONG[below(WRONG.length)];
        }
        return least + below(most - least + 1);
    }

    private int identifier() {
        if (oneIn(wrongShare)) {
            return WRONG[below(WRONG.length)];
        }
        if (!isCrowded) {
            return below(65536);
        }
        int identifier = oneIn(2) ? 0 : 65535;
        for (int flips = below(3); flips > 0; flips--) {
            identifier ^= 1 << below(16);
        }
        return identifier;
    }

    private int length() {
        return number(oneIn(4) ? 0 : 3, oneIn(4) ? 16 : 9);
    }

    private int valueOf(int length) {
        int value = identifier();
        boolean cut = !oneIn(wrongShare) && length >= 0 && length <= 16;
        return cut ? value & -(1 << (16 - length)) : value;
    }

    private int mapping() {
        return number(0, isCrowded ? 23 : 7);
    }

    private int address() {
        return oneIn(wrongShare) ? number(-1, 32) : 3 * below(isCrowded ? 5 : 9);
    }

    private int router() {
        return number(0, oneIn(4) ? 2 : 0);
    }

    private int entry() {
        return number(0, 7);
    }

    private void step() {
        int kind = below(3 * CALL_KINDS);
        if (kind >= 2 * CALL_KINDS) {
            send();
        } else if (kind % CALL_KINDS < 8) {
            stepOfRegistry(kind % CALL_KINDS);
        } else if (kind % CALL_KINDS < 12) {
            stepOfServers(kind % CALL_KINDS);
        } else {
            stepOfRouters(kind % CALL_KINDS);
        }
    }

    private void stepOfRegistry(int kind) {
        int a = mapping();
        int b = address();
        switch (kind) {
            case 0 -> register();
            case 1 -> {
                if (oneIn(isCrowded ? 3 : 8)) {
                    same(call("withdraw", a), () -> program.withdraw(a), () -> model.withdraw(a));
                } else {
                    register();
                }
            }
            case 2 -> addLocator(a, b);
            case 3 -> {
                int c = address();
                same(call("move", a, b, c), () -> program.move(a, b, c), () -> model.move(a, b, c));
            }
            case 4 -> same(call("removeLocator", a, b), () -> program.removeLocator(a, b),
                    () -> model.removeLocator(a, b));
            case 5 -> same(call("version", a), () -> program.version(a), () -> model.version(a));
            case 6 -> {
                int id = identifier();
                same(call("mappingOf", id), () -> program.mappingOf(id), () -> model.mappingOf(id));
            }
            default -> {
                int id = identifier();
                same(call("answerLength", id), () -> program.answerLength(id), () -> model.answerLength(id));
            }
        }
    }

    private void register() {
        int length = length();
        int value = valueOf(length);
        same(call("register", value, length), () -> program.register(value, length),
                () -> model.register(value, length));
    }

    private void addLocator(int mapping, int address) {
        int priority = number(0, oneIn(2) ? 0 : 3);
        int weight = number(1, 10);
        same(call("addLocator", mapping, address, priority, weight),
                () -> program.addLocator(mapping, address, priority, weight),
                () -> model.addLocator(mapping, address, priority, weight));
    }

    private void stepOfServers(int kind) {
        int server = number(0, 3);
        switch (kind) {
            case 8 -> {
                int length = length();
                int value = valueOf(length);
                same(call("delegate", value, length, server), () -> program.delegate(value, length, server),
                        () -> model.delegate(value, length, server));
            }
            case 9 -> {
                boolean is = !oneIn(3);
                same(call(is ? "setUp true" : "setUp false", server), () -> program.setUp(server, is),
                        () -> model.setUp(server, is));
            }
            case 10 -> {
                int id = identifier();
                same(call("serverOf", id), () -> program.serverOf(id), () -> model.serverOf(id));
            }
            default -> same(call("answers", server), () -> program.answers(server), () -> model.answers(server));
        }
    }

    private void send() {
        int router = router();
        int id = identifier();
        same(call("send", router, id), () -> program.send(router, id), () -> model.send(router, id));
    }

    private void stepOfRouters(int kind) {
        int router = router();
        switch (kind) {
            case 12 -> {
                int address = address();
                boolean is = !oneIn(3);
                same(call(is ? "probe true" : "probe false", router, address),
                        () -> program.probe(router, address, is), () -> model.probe(router, address, is));
            }
            case 13 -> {
                int positive = number(1, 200);
                int negative = number(1, 200);
                same(call("setLifetimes", positive, negative), () -> program.setLifetimes(positive, negative),
                        () -> model.setLifetimes(positive, negative));
            }
            case 14 -> {
                int seconds = number(1, oneIn(9) ? 1000 : 10);
                same(call("pass", seconds), () -> program.pass(seconds), () -> model.pass(seconds));
            }
            case 15 -> same("\n  solicitations", program::solicitations, model::solicitations);
            case 16 -> same(call("entries", router), () -> program.entries(router), () -> model.entries(router));
            default -> stepOfCaches(kind, router, entry());
        }
    }

    private void stepOfCaches(int kind, int router, int entry) {
        switch (kind) {
            case 17 -> same(call("prefixOf", router, entry), () -> program.prefixOf(router, entry),
                    () -> model.prefixOf(router, entry));
            case 18 -> same(call("mappingAt", router, entry), () -> program.mappingAt(router, entry),
                    () -> model.mappingAt(router, entry));
            case 19 -> same(call("lasts", router, entry), () -> program.lasts(router, entry),
                    () -> model.lasts(router, entry));
            default -> {
                int address = address();
                same(call("packetsTo", router, entry, address), () -> program.packetsTo(router, entry, address),
                        () -> model.packetsTo(router, entry, address));
            }
        }
    }

    private static String call(String name, int... arguments) {
        StringBuilder text = new StringBuilder("\n  ").append(name);
        for (int argument : arguments) {
            text.append(' ').append(argument);
        }
        return text.toString();
    }

    private void same(String call, Supplier<Object> byProgram, Supplier<Object> byModel) {
        String got = Checks.answerOf(byProgram);
        String want = Checks.answerOf(byModel);
        told.append(call).append(" = ").append(got);
        if (!got.equals(want)) {
            told.append(", due is ").append(want);
            differs = true;
        }
    }
}
