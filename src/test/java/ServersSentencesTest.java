import java.util.function.Supplier;

/** The document's sentences on the servers (promises 10 to 13) that name an edge, each with a test of its own. */
public final class ServersSentencesTest {
    private static final String INDEX = Checks.INDEX;
    private static final String ARGUMENT = Checks.ARGUMENT;
    private static final String STATE = Checks.STATE;
    private static final int LAST = 65535;

    private static final Checks checks = new Checks();

    private static void sentence(String words, Runnable test) {
        checks.sentence(words, test);
    }

    private static void due(Object want, Supplier<Object> call) {
        checks.due(want, call);
    }

    public static void main(String[] args) {
        servers();
        delegate();
        delegateFull();
        setUp();
        serverOf();
        answers();
        checks.end();
    }

    /** An object with the prefixes 0/16, 1/16 and so on delegated to server 1. */
    private static LocatorMapper withDelegated(int count) {
        LocatorMapper x = new LocatorMapper();
        for (int i = 0; i < count; i++) {
            x.delegate(i, 16, 1);
        }
        return x;
    }

    private static void servers() {
        sentence("There are the servers 0 to 3, all up at first", () -> {
            for (int server = 0; server < 4; server++) {
                LocatorMapper x = new LocatorMapper();
                int s = server;
                x.delegate(0, 0, s);
                due(-1, () -> x.send(0, 0));
                due(1, () -> x.answers(s));
                due(true, () -> x.setUp(s, true));
            }
        });
        sentence("server 0 if there is none", () -> {
            LocatorMapper x = new LocatorMapper();
            due(0, () -> x.serverOf(0));
            due(0, () -> x.serverOf(LAST));
            x.delegate(32768, 1, 3);
            due(0, () -> x.serverOf(32767));
            due(3, () -> x.serverOf(32768));
        });
    }

    private static void delegate() {
        sentence("server: 0 to 3 (delegate)", () -> {
            LocatorMapper x = new LocatorMapper();
            due(INDEX, () -> x.delegate(0, 0, -1));
            due(INDEX, () -> x.delegate(0, 0, 4));
            due(1, () -> x.delegate(0, 16, 0));
            due(2, () -> x.delegate(1, 16, 3));
            due(0, () -> x.serverOf(0));
            due(3, () -> x.serverOf(1));
        });
        sentence("value: an identifier (delegate)", () -> {
            LocatorMapper x = new LocatorMapper();
            due(ARGUMENT, () -> x.delegate(-1, 16, 1));
            due(ARGUMENT, () -> x.delegate(65536, 16, 1));
            due(ARGUMENT, () -> x.delegate(65536, 0, 1));
            due(1, () -> x.delegate(0, 16, 1));
            due(2, () -> x.delegate(LAST, 16, 1));
        });
        sentence("length: 0 to 16 (delegate)", () -> {
            LocatorMapper x = new LocatorMapper();
            due(ARGUMENT, () -> x.delegate(0, -1, 1));
            due(ARGUMENT, () -> x.delegate(0, 17, 1));
            due(ARGUMENT, () -> x.delegate(0, 32, 1));
            due(1, () -> x.delegate(0, 0, 1));
            due(2, () -> x.delegate(0, 16, 1));
        });
        sentence("or value has bits behind the length (delegate)", () -> {
            LocatorMapper x = new LocatorMapper();
            for (int length = 0; length < 16; length++) {
                int l = length;
                due(ARGUMENT, () -> x.delegate(1, l, 1));
                due(ARGUMENT, () -> x.delegate(32768 >> l, l, 1));
                due(ARGUMENT, () -> x.delegate(LAST, l, 1));
            }
            due(1, () -> x.delegate(LAST, 16, 1));
            due(2, () -> x.delegate(32768, 1, 1));
        });
        sentence("Returns how many prefixes are delegated then", () -> {
            LocatorMapper x = new LocatorMapper();
            due(1, () -> x.delegate(256, 8, 0));
            due(2, () -> x.delegate(256, 9, 0));
            due(3, () -> x.delegate(512, 8, 0));
            due(3, () -> x.delegate(256, 9, 0));
            due(4, () -> x.delegate(0, 0, 0));
        });
        sentence("in place of the one to which it was delegated", () -> {
            LocatorMapper x = new LocatorMapper();
            x.delegate(0, 0, 1);
            x.delegate(0, 8, 2);
            due(2, () -> x.delegate(0, 8, 3));
            due(3, () -> x.serverOf(255));
            due(1, () -> x.serverOf(256));
            due(2, () -> x.delegate(0, 8, 0));
            due(0, () -> x.serverOf(255));
            due(2, () -> x.delegate(0, 0, 2));
            due(0, () -> x.serverOf(255));
            due(2, () -> x.serverOf(256));
        });
    }

    private static void delegateFull() {
        sentence("if 12 other prefixes are delegated", () -> {
            LocatorMapper x = withDelegated(11);
            due(12, () -> x.delegate(11, 16, 1));
            due(STATE, () -> x.delegate(12, 16, 1));
            due(STATE, () -> x.delegate(0, 15, 1));
            due(STATE, () -> x.delegate(0, 0, 1));
            due(0, () -> x.serverOf(12));
            due(1, () -> x.serverOf(11));
        });
        sentence("12 other prefixes (one of the twelve is not refused)", () -> {
            LocatorMapper x = withDelegated(12);
            for (int i = 0; i < 12; i++) {
                int identifier = i;
                due(12, () -> x.delegate(identifier, 16, 2));
                due(2, () -> x.serverOf(identifier));
            }
            due(STATE, () -> x.delegate(12, 16, 2));
        });
        sentence("The first line of a method's throws clause that applies decides (delegate)", () -> {
            LocatorMapper x = withDelegated(12);
            due(INDEX, () -> x.delegate(12, 16, 4));
            due(INDEX, () -> x.delegate(-1, 17, -1));
            due(ARGUMENT, () -> x.delegate(65536, 16, 1));
            due(ARGUMENT, () -> x.delegate(12, 17, 1));
            due(ARGUMENT, () -> x.delegate(1, 15, 1));
        });
    }

    private static void setUp() {
        sentence("server: 0 to 3 (setUp)", () -> {
            LocatorMapper x = new LocatorMapper();
            due(INDEX, () -> x.setUp(-1, false));
            due(INDEX, () -> x.setUp(4, false));
            due(true, () -> x.setUp(0, false));
            due(true, () -> x.setUp(3, false));
            due(true, () -> x.setUp(1, true));
            due(true, () -> x.setUp(2, true));
        });
        sentence("Returns whether it was", () -> {
            LocatorMapper x = new LocatorMapper();
            due(true, () -> x.setUp(2, true));
            due(true, () -> x.setUp(2, false));
            due(false, () -> x.setUp(2, false));
            due(false, () -> x.setUp(2, true));
            due(true, () -> x.setUp(2, false));
        });
    }

    private static void serverOf() {
        sentence("that to which the longest delegated prefix that covers it is delegated", () -> {
            LocatorMapper x = new LocatorMapper();
            x.delegate(32768, 1, 1);
            x.delegate(40960, 16, 2);
            x.delegate(40960, 4, 3);
            x.delegate(40960, 3, 1);
            due(2, () -> x.serverOf(40960));
            due(3, () -> x.serverOf(40961));
            due(3, () -> x.serverOf(45055));
            due(1, () -> x.serverOf(45056));
            due(1, () -> x.serverOf(32768));
            due(0, () -> x.serverOf(32767));
        });
        sentence("the longest delegated prefix that covers it (every length)", () -> {
            LocatorMapper x = new LocatorMapper();
            for (int length = 5; length <= 16; length++) {
                x.delegate(0, length, 1 + length % 3);
            }
            for (int length = 5; length < 16; length++) {
                int identifier = 32768 >> length;
                int server = 1 + length % 3;
                due(server, () -> x.serverOf(identifier));
                due(server, () -> x.serverOf(2 * identifier - 1));
            }
            due(2, () -> x.serverOf(0));
            due(0, () -> x.serverOf(2048));
        });
        sentence("identifier: 0 to 65535 (serverOf)", () -> {
            LocatorMapper x = new LocatorMapper();
            x.delegate(0, 0, 3);
            due(3, () -> x.serverOf(0));
            due(3, () -> x.serverOf(LAST));
            due(ARGUMENT, () -> x.serverOf(-1));
            due(ARGUMENT, () -> x.serverOf(65536));
        });
        sentence("Returns the server (up or down, whatever the mappings are)", () -> {
            LocatorMapper x = new LocatorMapper();
            x.delegate(0, 0, 2);
            x.setUp(2, false);
            x.register(0, 16);
            due(2, () -> x.serverOf(0));
        });
    }

    private static void answers() {
        sentence("server: 0 to 3 (answers)", () -> {
            LocatorMapper x = new LocatorMapper();
            due(INDEX, () -> x.answers(-1));
            due(INDEX, () -> x.answers(4));
            due(0, () -> x.answers(0));
            due(0, () -> x.answers(3));
        });
        sentence("Returns how often a server has answered (not for a packet by an entry that stands)", () -> {
            LocatorMapper x = new LocatorMapper();
            x.send(0, 0);
            x.send(0, LAST);
            due(1, () -> x.answers(0));
            x.send(1, 0);
            due(2, () -> x.answers(0));
        });
        sentence("if it is down, the packet is UNANSWERED (and not counted)", () -> {
            LocatorMapper x = new LocatorMapper();
            x.setUp(0, false);
            due(-2, () -> x.send(0, 0));
            due(0, () -> x.answers(0));
            x.setUp(0, true);
            due(-1, () -> x.send(0, 0));
            x.setUp(0, false);
            due(1, () -> x.answers(0));
        });
        sentence("Otherwise the answer becomes an entry (also negative ones and ones without locators count)", () -> {
            LocatorMapper x = new LocatorMapper();
            x.register(0, 1);
            x.delegate(0, 1, 2);
            due(-3, () -> x.send(0, 0));
            due(-1, () -> x.send(0, 32768));
            due(1, () -> x.answers(2));
            due(1, () -> x.answers(0));
            x.delegate(0, 1, 3);
            x.withdraw(0);
            due(-1, () -> x.send(0, 0));
            due(1, () -> x.answers(2));
            due(1, () -> x.answers(3));
        });
        sentence("the identifier's server is asked (not that of the prefix)", () -> {
            LocatorMapper x = new LocatorMapper();
            x.delegate(0, 16, 1);
            x.delegate(1, 16, 2);
            x.setUp(0, false);
            due(-1, () -> x.send(0, 0));
            due(-1, () -> x.send(0, 1));
            due(-1, () -> x.send(0, LAST));
            due(1, () -> x.answers(1));
            due(0, () -> x.answers(2));
            due(-1, () -> x.send(1, 1));
            due(1, () -> x.answers(2));
            due(-2, () -> x.send(2, 2));
            due(0, () -> x.answers(0));
        });
        sentence("Returns how often (a refused packet and a query are no answer)", () -> {
            LocatorMapper x = new LocatorMapper();
            due(INDEX, () -> x.send(3, 0));
            due(ARGUMENT, () -> x.send(0, 65536));
            due(17, () -> x.answerLength(0));
            due(-1, () -> x.mappingOf(0));
            due(0, () -> x.answers(0));
        });
    }
}
