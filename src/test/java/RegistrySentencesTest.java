import java.util.function.Supplier;

/** The document's sentences on the registry (promises 1 to 9) that name an edge, each with a test of its own. */
public final class RegistrySentencesTest {
    private static final String INDEX = Checks.INDEX;
    private static final String ARGUMENT = Checks.ARGUMENT;
    private static final String STATE = Checks.STATE;
    private static final int LAST = 65535;

    private static final Checks checks = new Checks();

    private static void sentence(String words, Runnable test) {
        checks.sentence(words, test);
    }

    private static void due(Object want, Supplier<Object> call) {
        checks.due(want, call);
    }

    public static void main(String[] args) {
        newObject();
        prefixes();
        register();
        registerFull();
        withdraw();
        addLocator();
        locatorsFull();
        move();
        removeLocator();
        changes();
        mappingOf();
        answerLength();
        answerLengthOfNegative();
        version();
        checks.end();
    }

    private static int size(int length) {
        return 65536 >> length;
    }

    /** An object with the mappings 0 to count - 1, of length 16. */
    private static LocatorMapper withMappings(int count) {
        LocatorMapper x = new LocatorMapper();
        for (int i = 0; i < count; i++) {
            x.register(i, 16);
        }
        return x;
    }

    /** An object whose mapping 0 covers everything and has the locators 0 to count - 1, of one share each. */
    private static LocatorMapper withLocators(int count) {
        LocatorMapper x = new LocatorMapper();
        x.register(0, 0);
        for (int i = 0; i < count; i++) {
            x.addLocator(0, i, 0, 1);
        }
        return x;
    }

    private static void dueSends(LocatorMapper x, int... wanted) {
        for (int want : wanted) {
            due(want, () -> x.send(0, 0));
        }
    }

    private static void newObject() {
        sentence("Time 0", () -> {
            LocatorMapper x = new LocatorMapper();
            due(1000, () -> x.pass(1000));
        });
        sentence("an empty registry", () -> {
            LocatorMapper x = new LocatorMapper();
            for (int mapping = 0; mapping < 25; mapping++) {
                int m = mapping;
                due(INDEX, () -> x.version(m));
            }
            for (int bit = 0; bit < 16; bit++) {
                int identifier = 1 << bit;
                due(-1, () -> x.mappingOf(identifier));
                due(17, () -> x.answerLength(identifier));
            }
        });
        sentence("empty caches", () -> {
            LocatorMapper x = new LocatorMapper();
            for (int router = 0; router < 3; router++) {
                int r = router;
                due(0, () -> x.entries(r));
                due(INDEX, () -> x.prefixOf(r, 0));
                due(INDEX, () -> x.mappingAt(r, 0));
                due(INDEX, () -> x.packetsTo(r, 0, 0));
            }
        });
        sentence("A new object (nothing of another one)", () -> {
            LocatorMapper other = withLocators(4);
            other.send(0, 0);
            other.probe(1, 1, false);
            other.pass(9);
            other.withdraw(0);
            other.delegate(0, 0, 1);
            other.setUp(2, false);
            other.setLifetimes(7, 7);
            LocatorMapper x = new LocatorMapper();
            due(0, () -> x.register(0, 0));
            due(0, () -> x.entries(0));
            due(0, () -> x.probe(1, 2, true));
            due(1, () -> x.pass(1));
            due(0, x::solicitations);
            due(0, () -> x.serverOf(0));
            due(0, () -> x.answers(1));
            due(true, () -> x.setUp(2, true));
            due(100, () -> x.setLifetimes(7, 7));
        });
    }

    private static void prefixes() {
        sentence("it covers all identifiers with the same first bits", () -> {
            for (int length = 1; length <= 16; length++) {
                LocatorMapper x = new LocatorMapper();
                int first = length == 1 ? 32768 : 16384 + size(length);
                int l = length;
                due(0, () -> x.register(first, l));
                due(0, () -> x.mappingOf(first));
                due(0, () -> x.mappingOf(first + size(l) - 1));
                due(-1, () -> x.mappingOf(first - 1));
                due(first + size(l) > LAST ? ARGUMENT : "-1", () -> x.mappingOf(first + size(l)));
            }
        });
        sentence("A prefix has a length, 0 to 16 (of 0 bits: all identifiers)", () -> {
            LocatorMapper x = new LocatorMapper();
            x.register(0, 0);
            due(0, () -> x.mappingOf(0));
            due(0, () -> x.mappingOf(32767));
            due(0, () -> x.mappingOf(32768));
            due(0, () -> x.mappingOf(LAST));
        });
        sentence("A prefix has a length, 0 to 16 (of 16 bits: one identifier)", () -> {
            LocatorMapper x = new LocatorMapper();
            x.register(0, 16);
            x.register(LAST, 16);
            due(0, () -> x.mappingOf(0));
            due(-1, () -> x.mappingOf(1));
            due(-1, () -> x.mappingOf(LAST - 1));
            due(1, () -> x.mappingOf(LAST));
        });
    }

    private static void register() {
        sentence("value: an identifier", () -> {
            LocatorMapper x = new LocatorMapper();
            due(0, () -> x.register(0, 16));
            due(1, () -> x.register(LAST, 16));
            due(ARGUMENT, () -> x.register(-1, 16));
            due(ARGUMENT, () -> x.register(65536, 16));
            due(ARGUMENT, () -> x.register(65536, 0));
            due(ARGUMENT, () -> x.register(-65536, 0));
        });
        sentence("length: 0 to 16", () -> {
            LocatorMapper x = new LocatorMapper();
            due(ARGUMENT, () -> x.register(0, -1));
            due(ARGUMENT, () -> x.register(0, 17));
            due(ARGUMENT, () -> x.register(0, 32));
            for (int length = 0; length <= 16; length++) {
                int l = length;
                due(l, () -> x.register(0, l));
            }
        });
        sentence("or value has bits behind the length", () -> {
            for (int length = 0; length < 16; length++) {
                LocatorMapper x = new LocatorMapper();
                int l = length;
                for (int bit = 0; bit < 16; bit++) {
                    int value = 1 << bit;
                    boolean isBehind = value < size(length);
                    due(isBehind ? ARGUMENT : String.valueOf(bit - 16 + length), () -> x.register(value, l));
                }
                due(ARGUMENT, () -> x.register(LAST, l));
                due(ARGUMENT, () -> x.register(size(l) - 1, l));
            }
        });
        sentence("if a mapping that is not withdrawn has this prefix", () -> {
            LocatorMapper x = new LocatorMapper();
            due(0, () -> x.register(256, 8));
            due(STATE, () -> x.register(256, 8));
            due(1, () -> x.register(256, 9));
            due(2, () -> x.register(512, 8));
            due(STATE, () -> x.register(256, 8));
            x.withdraw(0);
            due(3, () -> x.register(256, 8));
            due(STATE, () -> x.register(256, 8));
            due(-1, () -> x.version(0));
        });
        sentence("Returns its number", () -> {
            LocatorMapper x = new LocatorMapper();
            for (int i = 0; i < 24; i++) {
                int number = i;
                due(number, () -> x.register(0, 0));
                x.withdraw(number);
            }
        });
    }

    private static void registerFull() {
        sentence("or there are 24", () -> {
            LocatorMapper x = withMappings(23);
            due(23, () -> x.register(23, 16));
            due(STATE, () -> x.register(24, 16));
            due(STATE, () -> x.register(23, 16));
            due(ARGUMENT, () -> x.register(24, 17));
            due(23, () -> x.mappingOf(23));
            due(-1, () -> x.mappingOf(24));
            due(INDEX, () -> x.version(24));
        });
        sentence("those that were withdrawn counted", () -> {
            LocatorMapper x = withMappings(24);
            for (int mapping = 0; mapping < 24; mapping++) {
                x.withdraw(mapping);
            }
            due(STATE, () -> x.register(0, 16));
            due(STATE, () -> x.register(0, 0));
            due(-1, () -> x.version(23));
            due(INDEX, () -> x.version(24));
        });
    }

    private static void withdraw() {
        sentence("Returns how many mappings are left that are not withdrawn", () -> {
            LocatorMapper x = withMappings(24);
            for (int i = 0; i < 24; i++) {
                int mapping = i * 7 % 24;
                int left = 23 - i;
                due(left, () -> x.withdraw(mapping));
            }
        });
        sentence("if there is no such mapping (withdraw)", () -> {
            LocatorMapper x = new LocatorMapper();
            due(INDEX, () -> x.withdraw(0));
            x.register(0, 0);
            due(INDEX, () -> x.withdraw(1));
            due(INDEX, () -> x.withdraw(-1));
            due(0, () -> x.withdraw(0));
            due(INDEX, () -> x.withdraw(1));
            due(INDEX, () -> withMappings(24).withdraw(24));
        });
        sentence("if it is withdrawn (withdraw)", () -> {
            LocatorMapper x = withMappings(2);
            due(1, () -> x.withdraw(1));
            due(STATE, () -> x.withdraw(1));
            due(2, () -> x.register(1, 16));
            due(STATE, () -> x.withdraw(1));
            due(2, () -> x.mappingOf(1));
            due(1, () -> x.withdraw(2));
        });
    }

    private static void addLocator() {
        sentence("address: 0 to 31 (addLocator)", () -> {
            LocatorMapper x = withMappings(1);
            due(ARGUMENT, () -> x.addLocator(0, -1, 0, 1));
            due(ARGUMENT, () -> x.addLocator(0, 32, 0, 1));
            due(2, () -> x.addLocator(0, 0, 0, 1));
            due(3, () -> x.addLocator(0, 31, 0, 1));
        });
        sentence("priority: 0 to 3", () -> {
            LocatorMapper x = withMappings(1);
            due(ARGUMENT, () -> x.addLocator(0, 0, -1, 1));
            due(ARGUMENT, () -> x.addLocator(0, 0, 4, 1));
            due(2, () -> x.addLocator(0, 0, 3, 1));
            dueSends(x, 0);
            due(3, () -> x.addLocator(0, 1, 0, 1));
            dueSends(x, 1, 1);
        });
        sentence("weight: 1 to 10", () -> {
            LocatorMapper x = withMappings(1);
            due(ARGUMENT, () -> x.addLocator(0, 0, 0, 0));
            due(ARGUMENT, () -> x.addLocator(0, 0, 0, -1));
            due(ARGUMENT, () -> x.addLocator(0, 0, 0, 11));
            due(2, () -> x.addLocator(0, 0, 0, 1));
            due(3, () -> x.addLocator(0, 1, 0, 10));
            dueSends(x, 1, 1, 1, 1, 1, 0, 1, 1, 1, 1, 1, 1);
        });
        sentence("if there is no such mapping (addLocator)", () -> {
            LocatorMapper x = withMappings(1);
            due(INDEX, () -> x.addLocator(1, 0, 0, 1));
            due(INDEX, () -> x.addLocator(-1, 0, 0, 1));
            due(INDEX, () -> x.addLocator(1, 32, 4, 11));
            due(INDEX, () -> withMappings(24).addLocator(24, 0, 0, 1));
        });
        sentence("if the mapping is withdrawn (addLocator)", () -> {
            LocatorMapper x = withMappings(2);
            x.withdraw(0);
            due(STATE, () -> x.addLocator(0, 0, 0, 1));
            due(ARGUMENT, () -> x.addLocator(0, 0, 0, 11));
            due(2, () -> x.addLocator(1, 0, 0, 1));
            due(2, () -> x.register(0, 16));
            due(2, () -> x.addLocator(2, 0, 0, 1));
            due(STATE, () -> x.addLocator(0, 1, 0, 1));
        });
        sentence("which no other one of the mapping has", () -> {
            LocatorMapper x = withMappings(2);
            due(2, () -> x.addLocator(0, 9, 0, 1));
            due(STATE, () -> x.addLocator(0, 9, 1, 2));
            due(2, () -> x.addLocator(1, 9, 0, 1));
            due(3, () -> x.move(0, 9, 8));
            due(STATE, () -> x.addLocator(0, 8, 0, 1));
            due(4, () -> x.addLocator(0, 9, 0, 1));
            due(5, () -> x.removeLocator(0, 8));
            due(6, () -> x.addLocator(0, 8, 0, 1));
        });
    }

    private static void locatorsFull() {
        sentence("has 4 locators", () -> {
            LocatorMapper x = withLocators(3);
            due(5, () -> x.addLocator(0, 3, 0, 1));
            due(STATE, () -> x.addLocator(0, 4, 0, 1));
            due(STATE, () -> x.addLocator(0, 3, 0, 1));
            due(ARGUMENT, () -> x.addLocator(0, 4, 0, 0));
            due(5, () -> x.version(0));
            dueSends(x, 0, 1, 2, 3, 0);
            due(6, () -> x.removeLocator(0, 3));
            due(7, () -> x.addLocator(0, 4, 0, 1));
            due(STATE, () -> x.addLocator(0, 3, 0, 1));
            dueSends(x, 0, 1, 2, 4, 0);
        });
        sentence("locators, at first none", () -> {
            LocatorMapper x = new LocatorMapper();
            x.register(0, 0);
            for (int address = 0; address < 32; address++) {
                int a = address;
                due(STATE, () -> x.removeLocator(0, a));
            }
            dueSends(x, -3, -3);
            LocatorMapper y = withLocators(4);
            y.withdraw(0);
            y.register(0, 0);
            dueSends(y, -3);
            due(STATE, () -> y.removeLocator(1, 0));
        });
        sentence("locators are in the order in which they were added", () -> {
            LocatorMapper x = withLocators(0);
            x.addLocator(0, 9, 0, 1);
            x.addLocator(0, 31, 0, 1);
            x.addLocator(0, 0, 0, 1);
            x.addLocator(0, 30, 0, 1);
            dueSends(x, 9, 31, 0, 30, 9);
            x.removeLocator(0, 9);
            dueSends(x, 31, 0, 30, 31);
            x.addLocator(0, 9, 0, 1);
            dueSends(x, 31, 0, 30, 9, 31);
            x.removeLocator(0, 0);
            dueSends(x, 31, 30, 9, 31);
        });
    }

    private static void move() {
        sentence("its place, priority and weight stay", () -> {
            LocatorMapper x = withLocators(0);
            x.addLocator(0, 5, 1, 2);
            x.addLocator(0, 6, 1, 1);
            x.addLocator(0, 7, 0, 1);
            due(5, () -> x.move(0, 5, 31));
            dueSends(x, 7, 7);
            x.probe(0, 7, false);
            dueSends(x, 31, 6, 31, 31, 6, 31);
            due(6, () -> x.move(0, 7, 0));
            dueSends(x, 0);
            x.probe(0, 0, false);
            dueSends(x, 31, 6, 31);
        });
        sentence("address: 0 to 31 (move)", () -> {
            LocatorMapper x = withLocators(1);
            due(ARGUMENT, () -> x.move(0, -1, 1));
            due(ARGUMENT, () -> x.move(0, 32, 1));
            due(3, () -> x.move(0, 0, 31));
            due(4, () -> x.move(0, 31, 0));
        });
        sentence("other: 0 to 31", () -> {
            LocatorMapper x = withLocators(1);
            due(ARGUMENT, () -> x.move(0, 0, -1));
            due(ARGUMENT, () -> x.move(0, 0, 32));
            due(ARGUMENT, () -> x.move(0, 9, 32));
            dueSends(x, 0);
        });
        sentence("if there is no such mapping (move)", () -> {
            LocatorMapper x = withLocators(1);
            due(INDEX, () -> x.move(1, 0, 1));
            due(INDEX, () -> x.move(-1, 0, 1));
            due(INDEX, () -> x.move(1, 32, -1));
        });
        sentence("has no locator with the address (move)", () -> {
            LocatorMapper x = withLocators(2);
            due(STATE, () -> x.move(0, 2, 3));
            due(STATE, () -> x.move(0, 2, 1));
            due(STATE, () -> x.move(0, 2, 2));
            due(4, () -> x.move(0, 1, 2));
            due(STATE, () -> x.move(0, 1, 3));
            x.removeLocator(0, 2);
            due(STATE, () -> x.move(0, 2, 3));
            due(STATE, () -> withLocators(0).move(0, 0, 1));
        });
        sentence("or has one with the other one (also if both are the same)", () -> {
            LocatorMapper x = withLocators(4);
            due(STATE, () -> x.move(0, 0, 3));
            due(STATE, () -> x.move(0, 3, 0));
            due(STATE, () -> x.move(0, 0, 0));
            due(STATE, () -> x.move(0, 3, 3));
            due(5, () -> x.version(0));
            due(6, () -> x.move(0, 0, 4));
            due(7, () -> x.move(0, 3, 0));
            dueSends(x, 4, 1, 2, 0);
        });
        sentence("if the mapping is withdrawn (move)", () -> {
            LocatorMapper x = withLocators(1);
            x.withdraw(0);
            due(STATE, () -> x.move(0, 0, 1));
            due(ARGUMENT, () -> x.move(0, 0, 32));
        });
    }

    private static void removeLocator() {
        sentence("Takes a locator out of a mapping", () -> {
            for (int address = 0; address < 4; address++) {
                LocatorMapper x = withLocators(4);
                int a = address;
                due(6, () -> x.removeLocator(0, a));
                for (int i = 0; i < 4; i++) {
                    int left = i;
                    if (left != a) {
                        due(left, () -> x.send(0, 0));
                    }
                }
            }
        });
        sentence("Takes a locator out of a mapping (the others keep their priorities and weights)", () -> {
            LocatorMapper x = withLocators(0);
            x.addLocator(0, 0, 3, 9);
            x.addLocator(0, 1, 2, 1);
            x.addLocator(0, 2, 2, 2);
            x.addLocator(0, 3, 1, 5);
            due(6, () -> x.removeLocator(0, 0));
            dueSends(x, 3, 3);
            x.probe(0, 3, false);
            dueSends(x, 2, 1, 2, 2, 1, 2);
            x.addLocator(0, 4, 3, 1);
            due(8, () -> x.removeLocator(0, 1));
            dueSends(x, 2, 2);
            x.probe(0, 2, false);
            dueSends(x, 4, 4);
            x.probe(0, 3, true);
            dueSends(x, 3);
        });
        sentence("address: 0 to 31 (removeLocator)", () -> {
            LocatorMapper x = withLocators(1);
            due(ARGUMENT, () -> x.removeLocator(0, -1));
            due(ARGUMENT, () -> x.removeLocator(0, 32));
            due(3, () -> x.removeLocator(0, 0));
            x.addLocator(0, 31, 0, 1);
            due(5, () -> x.removeLocator(0, 31));
        });
        sentence("if there is no such mapping (removeLocator)", () -> {
            LocatorMapper x = withLocators(1);
            due(INDEX, () -> x.removeLocator(1, 0));
            due(INDEX, () -> x.removeLocator(-1, 0));
            due(INDEX, () -> x.removeLocator(1, 32));
        });
        sentence("or has no locator with the address (removeLocator)", () -> {
            LocatorMapper x = withLocators(2);
            due(STATE, () -> x.removeLocator(0, 2));
            due(4, () -> x.removeLocator(0, 0));
            due(STATE, () -> x.removeLocator(0, 0));
            due(5, () -> x.removeLocator(0, 1));
            due(STATE, () -> x.removeLocator(0, 1));
            dueSends(x, -3);
        });
        sentence("if the mapping is withdrawn (removeLocator)", () -> {
            LocatorMapper x = withLocators(1);
            x.withdraw(0);
            due(STATE, () -> x.removeLocator(0, 0));
            due(ARGUMENT, () -> x.removeLocator(0, 32));
        });
    }

    private static void changes() {
        sentence("Each change of a mapping's locators makes its version 1 more", () -> {
            LocatorMapper x = withMappings(2);
            for (int i = 0; i < 50; i++) {
                int version = 3 * i;
                due(version + 2, () -> x.addLocator(0, 1, 3, 10));
                due(version + 3, () -> x.move(0, 1, 2));
                due(version + 4, () -> x.removeLocator(0, 2));
            }
            due(151, () -> x.version(0));
            due(1, () -> x.version(1));
        });
        sentence("a call that throws changes nothing (no version)", () -> {
            LocatorMapper x = withLocators(2);
            due(STATE, () -> x.addLocator(0, 1, 0, 1));
            due(STATE, () -> x.move(0, 0, 1));
            due(STATE, () -> x.removeLocator(0, 5));
            due(ARGUMENT, () -> x.move(0, 0, 32));
            due(3, () -> x.version(0));
            due(4, () -> x.addLocator(0, 2, 0, 1));
        });
    }

    private static void mappingOf() {
        sentence("the one with the longest prefix", () -> {
            LocatorMapper x = new LocatorMapper();
            for (int length = 16; length >= 0; length--) {
                x.register(0, length);
            }
            due(0, () -> x.mappingOf(0));
            for (int bit = 0; bit < 16; bit++) {
                int mapping = bit + 1;
                int identifier = 1 << bit;
                due(mapping, () -> x.mappingOf(identifier));
                due(mapping, () -> x.mappingOf(2 * identifier - 1));
            }
            for (int length = 16; length > 0; length--) {
                int withdrawn = 16 - length;
                x.withdraw(withdrawn);
                due(withdrawn + 1, () -> x.mappingOf(0));
            }
            x.withdraw(16);
            due(-1, () -> x.mappingOf(0));
        });
        sentence("by the whole registry", () -> {
            LocatorMapper x = withMappings(23);
            x.register(0, 0);
            x.send(0, 24);
            due(23, () -> x.mappingOf(24));
            due(22, () -> x.mappingOf(22));
            due(23, () -> x.mappingOf(LAST));
            x.setUp(0, false);
            due(23, () -> x.mappingOf(LAST));
        });
        sentence("identifier: 0 to 65535 (mappingOf)", () -> {
            LocatorMapper x = new LocatorMapper();
            x.register(0, 0);
            due(0, () -> x.mappingOf(0));
            due(0, () -> x.mappingOf(LAST));
            due(ARGUMENT, () -> x.mappingOf(-1));
            due(ARGUMENT, () -> x.mappingOf(65536));
            due(ARGUMENT, () -> x.mappingOf(-65536));
        });
        sentence("NONE if there is none", () -> {
            LocatorMapper x = new LocatorMapper();
            due(-1, () -> x.mappingOf(0));
            x.register(32768, 1);
            due(-1, () -> x.mappingOf(32767));
            due(0, () -> x.mappingOf(32768));
        });
    }

    private static void answerLength() {
        sentence("of all prefixes within that of the mapping that cover the identifier (of one alone: its own)", () -> {
            for (int length = 0; length <= 16; length++) {
                LocatorMapper x = new LocatorMapper();
                int l = length;
                x.register(0, l);
                due(l, () -> x.answerLength(0));
                due(l, () -> x.answerLength(size(l) - 1));
            }
        });
        sentence("and meet the prefix of no other mapping within that of this one, the shortest one", () -> {
            LocatorMapper x = new LocatorMapper();
            x.register(0, 0);
            x.register(0, 16);
            for (int bit = 0; bit < 16; bit++) {
                int length = 16 - bit;
                int identifier = 1 << bit;
                due(length, () -> x.answerLength(identifier));
                due(length, () -> x.answerLength(2 * identifier - 1));
            }
            due(16, () -> x.answerLength(0));
        });
        sentence("of no other mapping within that of this one (those that lie around it do not narrow)", () -> {
            LocatorMapper x = new LocatorMapper();
            x.register(0, 0);
            x.register(0, 1);
            x.register(0, 2);
            x.register(16384, 2);
            due(2, () -> x.answerLength(0));
            due(2, () -> x.answerLength(16384));
            due(1, () -> x.answerLength(32768));
            x.withdraw(0);
            due(18, () -> x.answerLength(32768));
            due(2, () -> x.answerLength(0));
            x.withdraw(2);
            due(2, () -> x.answerLength(0));
            x.withdraw(3);
            due(1, () -> x.answerLength(0));
        });
        sentence("the shortest one (none shorter than 16 is left)", () -> {
            LocatorMapper x = new LocatorMapper();
            x.register(0, 15);
            x.register(1, 16);
            due(16, () -> x.answerLength(0));
            due(16, () -> x.answerLength(1));
            x.register(0, 16);
            due(16, () -> x.answerLength(0));
            due(2, () -> x.mappingOf(0));
        });
        sentence("Withdrawn mappings never count (positive)", () -> {
            LocatorMapper x = new LocatorMapper();
            x.register(0, 4);
            x.register(0, 16);
            x.register(2048, 5);
            due(16, () -> x.answerLength(1));
            x.withdraw(1);
            due(5, () -> x.answerLength(1));
            x.withdraw(2);
            due(4, () -> x.answerLength(1));
            x.withdraw(0);
            due(17, () -> x.answerLength(1));
        });
        sentence("identifier: 0 to 65535 (answerLength)", () -> {
            LocatorMapper x = new LocatorMapper();
            x.register(0, 1);
            due(1, () -> x.answerLength(0));
            due(18, () -> x.answerLength(LAST));
            due(ARGUMENT, () -> x.answerLength(-1));
            due(ARGUMENT, () -> x.answerLength(65536));
        });
        sentence("that the answer for an identifier would have now", () -> {
            LocatorMapper x = new LocatorMapper();
            x.setUp(0, false);
            due(17, () -> x.answerLength(0));
            due(0, () -> x.entries(0));
            due(0, () -> x.answers(0));
            x.setUp(0, true);
            x.send(0, 0);
            x.register(32768, 1);
            due(18, () -> x.answerLength(0));
        });
    }

    private static void answerLengthOfNegative() {
        sentence("the shortest one that covers the identifier and meets the prefix of no mapping", () -> {
            for (int start = 0; start < 65536; start += 500) {
                LocatorMapper x = new LocatorMapper();
                x.register(LAST, 16);
                for (int i = start; i < Math.min(start + 500, LAST); i++) {
                    int identifier = i;
                    int common = Integer.numberOfLeadingZeros(i ^ LAST) - 16;
                    due(common + 1 + 17, () -> x.answerLength(identifier));
                }
            }
        });
        sentence("17 more, if the answer is negative (16 and 17)", () -> {
            LocatorMapper x = new LocatorMapper();
            x.register(0, 16);
            due(16, () -> x.answerLength(0));
            due(33, () -> x.answerLength(1));
        });
        sentence("17 more, if the answer is negative (0 and 17)", () -> {
            LocatorMapper x = new LocatorMapper();
            due(17, () -> x.answerLength(0));
            x.register(0, 0);
            due(0, () -> x.answerLength(0));
        });
        sentence("Withdrawn mappings never count (negative)", () -> {
            LocatorMapper x = new LocatorMapper();
            x.register(0, 16);
            x.register(0, 8);
            due(25, () -> x.answerLength(256));
            x.withdraw(1);
            due(25, () -> x.answerLength(256));
            due(33, () -> x.answerLength(1));
            x.withdraw(0);
            due(17, () -> x.answerLength(1));
        });
    }

    private static void version() {
        sentence("a version, 1 at first", () -> {
            LocatorMapper x = withMappings(24);
            due(1, () -> x.version(0));
            due(1, () -> x.version(23));
        });
        sentence("if there is no such mapping (version)", () -> {
            LocatorMapper x = withMappings(24);
            due(INDEX, () -> x.version(-1));
            due(INDEX, () -> x.version(24));
            due(INDEX, () -> withMappings(5).version(5));
        });
        sentence("NONE if it is withdrawn", () -> {
            LocatorMapper x = withMappings(2);
            x.withdraw(1);
            due(-1, () -> x.version(1));
            due(1, () -> x.version(0));
            x.register(1, 16);
            due(-1, () -> x.version(1));
            due(1, () -> x.version(2));
        });
        sentence("An object is used for at most 512 calls (the 512th one tells of 509 changes)", () -> {
            LocatorMapper x = withLocators(1);
            for (int i = 0; i < 508; i++) {
                x.move(0, i % 2, 1 - i % 2);
            }
            x.send(0, 0);
            due(510000, () -> x.mappingAt(0, 0));
        });
    }
}
