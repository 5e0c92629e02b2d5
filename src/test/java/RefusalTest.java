import java.util.ArrayList;
import java.util.List;
import java.util.function.Supplier;

/**
 * "The first line of a method's throws clause that applies decides; a call that throws changes nothing": every method
 * with every argument out of its range in many ways, alone and by twos, and with what the state refuses; each time
 * two objects had the same calls but for the refused one, and have to answer alike from then on.
 */
public final class RefusalTest {
    private static final Checks checks = new Checks();

    private enum Kind {
        MAPPING(0, 4, Checks.INDEX), SERVER(0, 3, Checks.INDEX), ROUTER(0, 2, Checks.INDEX),
        ENTRY(0, 7, Checks.INDEX), IDENTIFIER(0, 65535, Checks.ARGUMENT), LENGTH(0, 16, Checks.ARGUMENT),
        ADDRESS(0, 31, Checks.ARGUMENT), PRIORITY(0, 3, Checks.ARGUMENT), WEIGHT(1, 10, Checks.ARGUMENT),
        SECONDS(1, 1000, Checks.ARGUMENT);

        final int least;
        final int most;
        final String due;

        Kind(int least, int most, String due) {
            this.least = least;
            this.most = most;
            this.due = due;
        }

        /** Just beside the range, the ends of int, and numbers whose last bits alone would be within the range. */
        List<Integer> wrong() {
            int[] tried = {least - 1, least - 2, most + 1, most + 2, Integer.MIN_VALUE, Integer.MAX_VALUE,
                Integer.MIN_VALUE + least, Integer.MIN_VALUE + most, least - 65536, most + 65536, least + 256,
                least - 256, -most, ~most};
            List<Integer> wrong = new ArrayList<>();
            for (int value : tried) {
                if (value < least || value > most) {
                    wrong.add(value);
                }
            }
            return wrong;
        }
    }

    private interface Call {
        Object on(LocatorMapper x, int[] arguments);
    }

    /** A method with arguments that are all within their ranges in the state that busy() makes. */
    private record Method(String name, Call call, Kind[] kinds, int[] arguments) {
        String dueWith(int first, int second) {
            boolean isIndex = kinds[first].due.equals(Checks.INDEX) || kinds[second].due.equals(Checks.INDEX);
            return isIndex ? Checks.INDEX : Checks.ARGUMENT;
        }
    }

    private static Kind[] kinds(Kind... kinds) {
        return kinds;
    }

    private static int[] arguments(int... arguments) {
        return arguments;
    }

    private static final Method[] METHODS = {
        new Method("register", (x, a) -> x.register(a[0], a[1]), kinds(Kind.IDENTIFIER, Kind.LENGTH),
                arguments(0, 13)),
        new Method("withdraw", (x, a) -> x.withdraw(a[0]), kinds(Kind.MAPPING), arguments(1)),
        new Method("addLocator", (x, a) -> x.addLocator(a[0], a[1], a[2], a[3]),
                kinds(Kind.MAPPING, Kind.ADDRESS, Kind.PRIORITY, Kind.WEIGHT), arguments(2, 20, 1, 1)),
        new Method("move", (x, a) -> x.move(a[0], a[1], a[2]), kinds(Kind.MAPPING, Kind.ADDRESS, Kind.ADDRESS),
                arguments(1, 1, 21)),
        new Method("removeLocator", (x, a) -> x.removeLocator(a[0], a[1]), kinds(Kind.MAPPING, Kind.ADDRESS),
                arguments(1, 1)),
        new Method("mappingOf", (x, a) -> x.mappingOf(a[0]), kinds(Kind.IDENTIFIER), arguments(0)),
        new Method("answerLength", (x, a) -> x.answerLength(a[0]), kinds(Kind.IDENTIFIER), arguments(0)),
        new Method("version", (x, a) -> x.version(a[0]), kinds(Kind.MAPPING), arguments(0)),
        new Method("delegate", (x, a) -> x.delegate(a[0], a[1], a[2]),
                kinds(Kind.IDENTIFIER, Kind.LENGTH, Kind.SERVER), arguments(0, 13, 3)),
        new Method("setUp true", (x, a) -> x.setUp(a[0], true), kinds(Kind.SERVER), arguments(3)),
        new Method("setUp false", (x, a) -> x.setUp(a[0], false), kinds(Kind.SERVER), arguments(0)),
        new Method("serverOf", (x, a) -> x.serverOf(a[0]), kinds(Kind.IDENTIFIER), arguments(0)),
        new Method("answers", (x, a) -> x.answers(a[0]), kinds(Kind.SERVER), arguments(0)),
        new Method("send", (x, a) -> x.send(a[0], a[1]), kinds(Kind.ROUTER, Kind.IDENTIFIER), arguments(0, 4096)),
        new Method("probe true", (x, a) -> x.probe(a[0], a[1], true), kinds(Kind.ROUTER, Kind.ADDRESS),
                arguments(0, 2)),
        new Method("probe false", (x, a) -> x.probe(a[0], a[1], false), kinds(Kind.ROUTER, Kind.ADDRESS),
                arguments(0, 1)),
        new Method("setLifetimes", (x, a) -> x.setLifetimes(a[0], a[1]), kinds(Kind.SECONDS, Kind.SECONDS),
                arguments(1, 1)),
        new Method("pass", (x, a) -> x.pass(a[0]), kinds(Kind.SECONDS), arguments(1)),
        new Method("entries", (x, a) -> x.entries(a[0]), kinds(Kind.ROUTER), arguments(0)),
        new Method("prefixOf", (x, a) -> x.prefixOf(a[0], a[1]), kinds(Kind.ROUTER, Kind.ENTRY), arguments(0, 0)),
        new Method("mappingAt", (x, a) -> x.mappingAt(a[0], a[1]), kinds(Kind.ROUTER, Kind.ENTRY), arguments(0, 0)),
        new Method("lasts", (x, a) -> x.lasts(a[0], a[1]), kinds(Kind.ROUTER, Kind.ENTRY), arguments(0, 0)),
        new Method("packetsTo", (x, a) -> x.packetsTo(a[0], a[1], a[2]),
                kinds(Kind.ROUTER, Kind.ENTRY, Kind.ADDRESS), arguments(0, 0, 1)),
    };

    private static final String BUSY_TOLD = told(busy());
    private static final String FULL_TOLD = told(full());

    public static void main(String[] args) {
        for (Method method : METHODS) {
            accepted(method);
            oneWrong(method);
            twoWrong(method);
        }
        bitsBehind();
        refusedByState();
        refusedWhereFull();
        argumentsAheadOfState();
        checks.end();
    }

    /** The mappings 0 to 4 (3 is withdrawn), a full cache of router 0 with ended and solicited entries. */
    private static LocatorMapper busy() {
        LocatorMapper x = new LocatorMapper();
        x.register(0, 1);
        x.register(4096, 4);
        x.register(4352, 8);
        x.register(49152, 4);
        x.register(65535, 16);
        for (int mapping = 0; mapping < 3; mapping++) {
            x.addLocator(mapping, 1, 0, 1);
            x.addLocator(mapping, 2, 0, 3);
            x.addLocator(mapping, 3, 1, 2);
        }
        x.addLocator(1, 4, 0, 10);
        x.withdraw(3);
        x.delegate(32768, 1, 1);
        x.delegate(49152, 2, 2);
        x.setUp(3, false);
        x.probe(0, 2, false);
        x.probe(1, 1, false);
        x.setLifetimes(200, 50);
        x.send(0, 50000);
        x.pass(50);
        for (int identifier : new int[] {16384, 8192, 4096, 4352, 65535, 5000, 0}) {
            x.send(0, identifier);
            x.send(0, 4096);
        }
        x.send(1, 4096);
        x.move(2, 1, 31);
        x.pass(10);
        return x;
    }

    /** 24 mappings, 4 locators of mapping 0, 12 delegated prefixes. */
    private static LocatorMapper full() {
        LocatorMapper x = new LocatorMapper();
        x.register(0, 0);
        for (int i = 1; i < 24; i++) {
            x.register(2048 * i, 5);
        }
        for (int i = 0; i < 4; i++) {
            x.addLocator(0, i, 0, 1 + i);
        }
        for (int i = 0; i < 12; i++) {
            x.delegate(4096 * i, 4, i % 4);
        }
        for (int i = 0; i < 16; i++) {
            x.send(i % 3, 4096 * i);
        }
        return x;
    }

    /** The answers of calls that together depend on everything that the object keeps; it is used up then. */
    private static String told(LocatorMapper x) {
        StringBuilder told = new StringBuilder();
        tellCaches(told, x);
        tellRegistry(told, x);
        for (int router = 0; router < 3; router++) {
            int r = router;
            tell(told, () -> x.probe(r, 30, false));
            for (int identifier : new int[] {4096, 8192, 4352, 32768, 65535, 0, 4096}) {
                tell(told, () -> x.send(r, identifier));
            }
        }
        for (int server = 0; server < 4; server++) {
            int s = server;
            tell(told, () -> x.answers(s));
            tell(told, () -> x.setUp(s, true));
        }
        tellNextOnes(told, x);
        tellCaches(told, x);
        return told.toString();
    }

    private static void tellNextOnes(StringBuilder told, LocatorMapper x) {
        tell(told, () -> x.withdraw(1));
        tell(told, () -> x.withdraw(2));
        tell(told, () -> x.register(8, 16));
        tell(told, () -> x.delegate(9, 16, 1));
        tell(told, () -> x.addLocator(0, 29, 0, 1));
        for (int i = 0; i < 4; i++) {
            int place = i;
            tell(told, () -> x.send(0, 0));
            tell(told, () -> x.send(2, 1 << place));
        }
        tell(told, () -> x.send(2, 8));
        tell(told, () -> x.setLifetimes(1, 1));
        tell(told, () -> x.pass(1));
    }

    private static void tellRegistry(StringBuilder told, LocatorMapper x) {
        for (int mapping = 0; mapping < 24; mapping++) {
            int m = mapping;
            tell(told, () -> x.version(m));
        }
        for (int identifier : new int[] {0, 4096, 4352, 49152, 65535, 32768}) {
            tell(told, () -> x.mappingOf(identifier));
            tell(told, () -> x.answerLength(identifier));
            tell(told, () -> x.serverOf(identifier));
        }
    }

    private static void tellCaches(StringBuilder told, LocatorMapper x) {
        tell(told, x::solicitations);
        for (int router = 0; router < 3; router++) {
            int r = router;
            int entries = x.entries(r);
            told.append(entries).append(' ');
            for (int entry = 0; entry < entries; entry++) {
                int e = entry;
                tell(told, () -> x.prefixOf(r, e));
                tell(told, () -> x.mappingAt(r, e));
                tell(told, () -> x.lasts(r, e));
                tell(told, () -> x.packetsTo(r, e, 1));
                tell(told, () -> x.packetsTo(r, e, 2));
            }
        }
    }

    private static void tell(StringBuilder told, Supplier<Object> call) {
        told.append(Checks.answerOf(call)).append(' ');
    }

    private static void refused(String words, String due, boolean isFull, Call call, int... arguments) {
        StringBuilder text = new StringBuilder(words);
        for (int argument : arguments) {
            text.append(' ').append(argument);
        }
        checks.sentence(text.toString(), () -> {
            LocatorMapper x = isFull ? full() : busy();
            checks.due(due, () -> call.on(x, arguments));
            checks.due(isFull ? FULL_TOLD : BUSY_TOLD, () -> told(x));
        });
    }

    private static void accepted(Method method) {
        checks.sentence(method.name() + " as it is tried", () -> {
            String answer = Checks.answerOf(() -> method.call().on(busy(), method.arguments()));
            checks.due(false, () -> answer.startsWith("throws."));
        });
    }

    private static void oneWrong(Method method) {
        for (int i = 0; i < method.kinds().length; i++) {
            for (int value : method.kinds()[i].wrong()) {
                int[] arguments = method.arguments().clone();
                arguments[i] = value;
                refused(method.name(), method.kinds()[i].due, false, method.call(), arguments);
            }
        }
    }

    private static void twoWrong(Method method) {
        for (int i = 0; i < method.kinds().length; i++) {
            for (int j = i + 1; j < method.kinds().length; j++) {
                for (int value : method.kinds()[i].wrong()) {
                    for (int other : method.kinds()[j].wrong()) {
                        int[] arguments = method.arguments().clone();
                        arguments[i] = value;
                        arguments[j] = other;
                        refused(method.name(), method.dueWith(i, j), false, method.call(), arguments);
                    }
                }
            }
        }
    }

    private static void bitsBehind() {
        for (int length = 0; length < 16; length++) {
            int lastCounted = 65536 >> length;
            for (int value : new int[] {1, lastCounted >> 1, lastCounted - 1, 65535}) {
                refused("register", Checks.ARGUMENT, false, (x, a) -> x.register(a[0], a[1]), value, length);
                refused("delegate", Checks.ARGUMENT, false, (x, a) -> x.delegate(a[0], a[1], a[2]), value, length, 2);
                refused("delegate", Checks.INDEX, false, (x, a) -> x.delegate(a[0], a[1], a[2]), value, length, 4);
            }
        }
    }

    private static void refusedByState() {
        refused("register", Checks.STATE, false, (x, a) -> x.register(a[0], a[1]), 0, 1);
        refused("register", Checks.STATE, false, (x, a) -> x.register(a[0], a[1]), 65535, 16);
        refused("withdraw", Checks.STATE, false, (x, a) -> x.withdraw(a[0]), 3);
        refused("addLocator, withdrawn", Checks.STATE, false, (x, a) -> x.addLocator(a[0], 9, 0, 1), 3);
        refused("addLocator, four", Checks.STATE, false, (x, a) -> x.addLocator(a[0], 9, 0, 1), 1);
        refused("addLocator, taken", Checks.STATE, false, (x, a) -> x.addLocator(a[0], a[1], 0, 1), 0, 3);
        refused("move, withdrawn", Checks.STATE, false, (x, a) -> x.move(a[0], a[1], a[2]), 3, 1, 2);
        refused("move, none", Checks.STATE, false, (x, a) -> x.move(a[0], a[1], a[2]), 0, 4, 5);
        refused("move, none to taken", Checks.STATE, false, (x, a) -> x.move(a[0], a[1], a[2]), 0, 4, 1);
        refused("move, none to itself", Checks.STATE, false, (x, a) -> x.move(a[0], a[1], a[2]), 0, 4, 4);
        refused("move, taken", Checks.STATE, false, (x, a) -> x.move(a[0], a[1], a[2]), 0, 1, 2);
        refused("move, to itself", Checks.STATE, false, (x, a) -> x.move(a[0], a[1], a[2]), 0, 1, 1);
        refused("removeLocator, withdrawn", Checks.STATE, false, (x, a) -> x.removeLocator(a[0], a[1]), 3, 1);
        refused("removeLocator, none", Checks.STATE, false, (x, a) -> x.removeLocator(a[0], a[1]), 2, 1);
        refused("removeLocator, no locators", Checks.STATE, false, (x, a) -> x.removeLocator(a[0], a[1]), 4, 0);
    }

    private static void refusedWhereFull() {
        refused("register, 24", Checks.STATE, true, (x, a) -> x.register(a[0], a[1]), 65535, 16);
        refused("register, 24 and taken", Checks.STATE, true, (x, a) -> x.register(a[0], a[1]), 0, 0);
        refused("addLocator, 4", Checks.STATE, true, (x, a) -> x.addLocator(a[0], 31, 0, 1), 0);
        refused("addLocator, 4 and taken", Checks.STATE, true, (x, a) -> x.addLocator(a[0], 0, 0, 1), 0);
        refused("delegate, 12", Checks.STATE, true, (x, a) -> x.delegate(a[0], a[1], a[2]), 49152, 4, 0);
        refused("delegate, 12", Checks.STATE, true, (x, a) -> x.delegate(a[0], a[1], a[2]), 0, 5, 3);
        refused("withdraw, past the last", Checks.INDEX, true, (x, a) -> x.withdraw(a[0]), 24);
        refused("version, past the last", Checks.INDEX, true, (x, a) -> x.version(a[0]), 24);
    }

    private static void argumentsAheadOfState() {
        refused("register", Checks.ARGUMENT, true, (x, a) -> x.register(a[0], a[1]), 65536, 0);
        refused("register", Checks.ARGUMENT, true, (x, a) -> x.register(a[0], a[1]), 0, 17);
        refused("register", Checks.ARGUMENT, true, (x, a) -> x.register(a[0], a[1]), 1, 0);
        refused("delegate", Checks.ARGUMENT, true, (x, a) -> x.delegate(a[0], a[1], a[2]), 65536, 0, 0);
        refused("delegate", Checks.ARGUMENT, true, (x, a) -> x.delegate(a[0], a[1], a[2]), 1, 15, 0);
        refused("delegate", Checks.INDEX, true, (x, a) -> x.delegate(a[0], a[1], a[2]), 1, 16, 4);
        refused("addLocator", Checks.INDEX, true, (x, a) -> x.addLocator(a[0], a[1], 0, 1), 24, 0);
        refused("addLocator", Checks.ARGUMENT, true, (x, a) -> x.addLocator(0, a[0], a[1], a[2]), 32, 0, 1);
        refused("addLocator", Checks.ARGUMENT, true, (x, a) -> x.addLocator(0, a[0], a[1], a[2]), 0, 4, 1);
        refused("addLocator", Checks.ARGUMENT, true, (x, a) -> x.addLocator(0, a[0], a[1], a[2]), 0, 0, 11);
        refused("addLocator", Checks.ARGUMENT, false, (x, a) -> x.addLocator(a[0], a[1], 0, 0), 3, 1);
        refused("move", Checks.ARGUMENT, false, (x, a) -> x.move(a[0], a[1], a[2]), 3, 1, 32);
        refused("move", Checks.ARGUMENT, false, (x, a) -> x.move(a[0], a[1], a[2]), 3, -1, 1);
        refused("move", Checks.ARGUMENT, false, (x, a) -> x.move(a[0], a[1], a[2]), 0, 9, -1);
        refused("removeLocator", Checks.ARGUMENT, false, (x, a) -> x.removeLocator(a[0], a[1]), 3, 32);
        refused("packetsTo", Checks.INDEX, true, (x, a) -> x.packetsTo(a[0], a[1], a[2]), 3, 0, 32);
        refused("packetsTo", Checks.INDEX, true, (x, a) -> x.packetsTo(a[0], a[1], a[2]), 0, 8, 32);
    }
}
