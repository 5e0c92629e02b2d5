import java.util.function.Supplier;

/** The document's sentences on packets and time (promises 14 to 17) that name an edge, each with a test of its own. */
public final class RoutersSentencesTest {
    private static final String INDEX = Checks.INDEX;
    private static final String ARGUMENT = Checks.ARGUMENT;
    private static final int LAST = 65535;

    private static final Checks checks = new Checks();

    private static void sentence(String words, Runnable test) {
        checks.sentence(words, test);
    }

    private static void due(Object want, Supplier<Object> call) {
        checks.due(want, call);
    }

    public static void main(String[] args) {
        routers();
        lifetimes();
        whichEntry();
        asked();
        takenOutMeeting();
        takenOutFull();
        negativeEntries();
        priorities();
        shares();
        sharesAfterProbes();
        probe();
        setLifetimes();
        pass();
        checks.end();
    }

    /** An object with the mappings i/4 (i times 4096), with locator i each. */
    private static LocatorMapper withRow(int count) {
        LocatorMapper x = new LocatorMapper();
        for (int i = 0; i < count; i++) {
            x.register(4096 * i, 4);
            x.addLocator(i, i, 0, 1);
        }
        return x;
    }

    /** An object whose mapping 0 covers everything, its locators of priority 0 with addresses from 0 and weights. */
    private static LocatorMapper withWeights(int... weights) {
        LocatorMapper x = new LocatorMapper();
        x.register(0, 0);
        for (int i = 0; i < weights.length; i++) {
            x.addLocator(0, i, 0, weights[i]);
        }
        return x;
    }

    private static void dueSends(LocatorMapper x, int... wanted) {
        for (int want : wanted) {
            due(want, () -> x.send(0, 0));
        }
    }

    /** The first bits of the entries' prefixes of length 4, in their order. */
    private static void dueRow(LocatorMapper x, int... wanted) {
        due(wanted.length, () -> x.entries(0));
        for (int i = 0; i < wanted.length; i++) {
            int entry = i;
            due(32 * 4096 * wanted[i] + 4, () -> x.prefixOf(0, entry));
        }
    }

    private static void routers() {
        sentence("There are the routers 0 to 2", () -> {
            LocatorMapper x = withRow(1);
            due(INDEX, () -> x.send(-1, 0));
            due(INDEX, () -> x.send(3, 0));
            due(INDEX, () -> x.send(3, LAST + 1));
            for (int router = 0; router < 3; router++) {
                int r = router;
                due(0, () -> x.entries(r));
                due(0, () -> x.send(r, 0));
                due(1, () -> x.entries(r));
                due(r + 1, () -> x.answers(0));
            }
        });
        sentence("identifier: 0 to 65535 (send)", () -> {
            LocatorMapper x = withRow(16);
            due(ARGUMENT, () -> x.send(0, -1));
            due(ARGUMENT, () -> x.send(0, 65536));
            due(0, () -> x.send(0, 0));
            due(15, () -> x.send(0, LAST));
        });
        sentence("A router holds all addresses for reachable", () -> {
            for (int address = 0; address < 32; address++) {
                LocatorMapper x = new LocatorMapper();
                int a = address;
                x.register(0, 0);
                x.addLocator(0, a, 3, 1);
                due(a, () -> x.send(2, 0));
            }
        });
    }

    private static void lifetimes() {
        sentence("that of the answer and 100 seconds", () -> {
            LocatorMapper x = withRow(1);
            x.pass(7);
            due(0, () -> x.send(0, 0));
            x.pass(99);
            due(0, () -> x.send(0, 0));
            due(1, () -> x.answers(0));
            due(1, () -> x.lasts(0, 0));
        });
        sentence("from that time on it has ended", () -> {
            LocatorMapper x = withRow(1);
            due(0, () -> x.send(0, 0));
            x.pass(100);
            due(0, () -> x.lasts(0, 0));
            due(0, () -> x.send(0, 0));
            due(2, () -> x.answers(0));
            due(100, () -> x.lasts(0, 0));
            due(1, () -> x.entries(0));
        });
        sentence("or 20 if it is negative, at first", () -> {
            LocatorMapper x = new LocatorMapper();
            due(-1, () -> x.send(0, 0));
            x.pass(19);
            due(-1, () -> x.send(0, 0));
            due(1, () -> x.answers(0));
            x.pass(1);
            due(-1, () -> x.send(0, 0));
            due(2, () -> x.answers(0));
        });
        sentence("with the time at which it ends (a packet does not put it off)", () -> {
            LocatorMapper x = withRow(1);
            for (int i = 0; i < 10; i++) {
                due(0, () -> x.send(0, 0));
                x.pass(10);
            }
            due(1, () -> x.answers(0));
            due(0, () -> x.lasts(0, 0));
        });
        sentence("from that time on it has ended (also long after)", () -> {
            LocatorMapper x = withRow(1);
            x.send(0, 0);
            x.pass(1000);
            x.setUp(0, false);
            due(-2, () -> x.send(0, 0));
            due(1, () -> x.entries(0));
        });
    }

    private static void whichEntry() {
        sentence("of the router's entries that are not solicited", () -> {
            LocatorMapper x = withRow(2);
            x.send(0, 0);
            x.send(0, 4096);
            x.move(0, 0, 9);
            due(9, () -> x.send(0, 0));
            due(1, () -> x.send(0, 4096));
            due(3, () -> x.answers(0));
        });
        sentence("and cover the identifier (its first, its last, and those beside)", () -> {
            LocatorMapper x = withRow(3);
            due(1, () -> x.send(0, 5000));
            x.setUp(0, false);
            due(1, () -> x.send(0, 4096));
            due(1, () -> x.send(0, 8191));
            due(-2, () -> x.send(0, 4095));
            due(-2, () -> x.send(0, 8192));
        });
        sentence("of the router's entries (not of another one's)", () -> {
            LocatorMapper x = withRow(1);
            x.send(0, 0);
            x.setUp(0, false);
            due(0, () -> x.send(0, 0));
            due(-2, () -> x.send(1, 0));
            due(-2, () -> x.send(2, 0));
        });
        sentence("narrowed so that they hide no more specific prefix", () -> {
            LocatorMapper x = withWeights(1);
            x.register(256, 8);
            x.addLocator(1, 20, 0, 1);
            x.register(256, 16);
            x.addLocator(2, 30, 0, 1);
            due(0, () -> x.send(0, 0));
            due(8, () -> x.prefixOf(0, 0));
            due(0, () -> x.send(0, 255));
            due(20, () -> x.send(0, 511));
            due(32 * 384 + 9, () -> x.prefixOf(0, 1));
            due(30, () -> x.send(0, 256));
            due(20, () -> x.send(0, 257));
            due(32 * 257 + 16, () -> x.prefixOf(0, 3));
            due(0, () -> x.send(0, LAST));
            due(32 * 32768 + 1, () -> x.prefixOf(0, 4));
            due(5, () -> x.answers(0));
        });
        sentence("an entry is an answer that was got (what changed beside it does not reach it)", () -> {
            LocatorMapper x = withRow(1);
            x.register(32768, 1);
            due(0, () -> x.send(0, 0));
            due(-1, () -> x.send(0, 16384));
            x.addLocator(1, 30, 0, 1);
            x.withdraw(1);
            x.setUp(0, false);
            due(0, () -> x.send(0, 0));
            due(-1, () -> x.send(0, 16384));
            due(-2, () -> x.send(0, 32768));
        });
    }

    private static void asked() {
        sentence("If there is none, the identifier's server is asked; if it is down, the packet is UNANSWERED", () -> {
            LocatorMapper x = withRow(3);
            x.send(0, 0);
            x.send(0, 4096);
            x.move(0, 0, 9);
            x.setUp(0, false);
            due(-2, () -> x.send(0, 0));
            due(-2, () -> x.send(0, 8192));
            due(-2, () -> x.send(1, 0));
            dueRow(x, 0, 1);
            due(-1, () -> x.lasts(0, 0));
            due(0, () -> x.entries(1));
            due(2, () -> x.answers(0));
        });
        sentence("if it is down (an entry that stands is used all the same)", () -> {
            LocatorMapper x = withRow(2);
            x.send(0, 0);
            x.send(0, 4096);
            x.setUp(0, false);
            due(0, () -> x.send(0, 0));
            dueRow(x, 1, 0);
        });
        sentence("if it is down (another one's being down is nothing to it)", () -> {
            LocatorMapper x = withRow(2);
            x.delegate(4096, 4, 3);
            x.setUp(0, false);
            due(1, () -> x.send(0, 4096));
            due(-2, () -> x.send(0, 0));
            x.setUp(0, true);
            x.setUp(3, false);
            due(0, () -> x.send(0, 0));
            due(-2, () -> x.send(1, 4096));
        });
        sentence("Otherwise the answer becomes an entry, which is used", () -> {
            LocatorMapper x = withRow(3);
            for (int i = 2; i >= 0; i--) {
                int address = i;
                int entry = 2 - i;
                due(address, () -> x.send(0, 4096 * address));
                due(entry + 1, () -> x.entries(0));
                due(1, () -> x.packetsTo(0, entry, address));
            }
            dueRow(x, 2, 1, 0);
        });
    }

    private static void takenOutMeeting() {
        sentence("all entries whose prefixes meet its prefix are taken out (those within it)", () -> {
            LocatorMapper x = withRow(4);
            for (int i = 0; i < 4; i++) {
                x.send(0, 4096 * i);
            }
            x.send(0, 32768);
            for (int i = 1; i < 4; i++) {
                x.withdraw(i);
            }
            x.withdraw(0);
            x.register(0, 2);
            due(5, () -> x.entries(0));
            due(-3, () -> x.send(0, 8192));
            due(2, () -> x.entries(0));
            due(32 * 32768 + 1, () -> x.prefixOf(0, 0));
            due(2, () -> x.prefixOf(0, 1));
        });
        sentence("all entries whose prefixes meet its prefix are taken out (the one that it is within)", () -> {
            LocatorMapper x = withWeights(1);
            dueSends(x, 0);
            x.register(256, 8);
            due(-3, () -> x.send(0, 256));
            due(1, () -> x.entries(0));
            due(32 * 256 + 8, () -> x.prefixOf(0, 0));
        });
        sentence("all entries whose prefixes meet its prefix are taken out (the same prefix)", () -> {
            LocatorMapper x = withRow(2);
            x.send(0, 0);
            x.send(0, 4096);
            x.move(0, 0, 8);
            due(8, () -> x.send(0, 0));
            dueRow(x, 1, 0);
            due(2000 + 1, () -> x.mappingAt(0, 0));
            due(3000, () -> x.mappingAt(0, 1));
        });
        sentence("all entries whose prefixes meet its prefix are taken out (also ones that still hold)", () -> {
            LocatorMapper x = withWeights(1);
            x.register(32768, 1);
            dueSends(x, 0, 0);
            x.withdraw(1);
            due(100, () -> x.lasts(0, 0));
            due(0, x::solicitations);
            due(0, () -> x.send(0, LAST));
            due(1, () -> x.entries(0));
            due(0, () -> x.prefixOf(0, 0));
            due(1, () -> x.packetsTo(0, 0, 0));
        });
        sentence("all entries whose prefixes meet its prefix are taken out (and no others)", () -> {
            LocatorMapper x = withRow(3);
            x.send(0, 0);
            x.send(0, 4096);
            x.send(0, 8192);
            x.send(1, 4096);
            x.pass(100);
            due(1, () -> x.send(0, 4096));
            dueRow(x, 0, 2, 1);
            due(0, () -> x.lasts(0, 0));
            due(0, () -> x.lasts(1, 0));
        });
    }

    private static void takenOutFull() {
        sentence("Each has a cache of at most 8 entries", () -> {
            LocatorMapper x = withRow(16);
            for (int i = 0; i < 16; i++) {
                int address = i;
                due(address, () -> x.send(0, 4096 * address));
                due(Math.min(address + 1, 8), () -> x.entries(0));
            }
            dueRow(x, 8, 9, 10, 11, 12, 13, 14, 15);
        });
        sentence("and then, if there are 8, the one that was used least recently", () -> {
            LocatorMapper x = withRow(10);
            for (int i = 0; i < 8; i++) {
                x.send(0, 4096 * i);
            }
            x.send(0, 0);
            x.send(0, 4096 * 3);
            due(8, () -> x.send(0, 4096 * 8));
            dueRow(x, 2, 4, 5, 6, 7, 0, 3, 8);
            due(9, () -> x.send(0, 4096 * 9));
            dueRow(x, 4, 5, 6, 7, 0, 3, 8, 9);
            due(2, () -> x.send(0, 4096 * 2));
            due(11, () -> x.answers(0));
            dueRow(x, 5, 6, 7, 0, 3, 8, 9, 2);
        });
        sentence("and then, if there are 8 (not if one of the 8 was taken out for meeting)", () -> {
            LocatorMapper x = withRow(8);
            for (int i = 0; i < 8; i++) {
                x.send(0, 4096 * i);
            }
            x.move(5, 5, 30);
            due(30, () -> x.send(0, 4096 * 5));
            dueRow(x, 0, 1, 2, 3, 4, 6, 7, 5);
        });
        sentence("the one that was used least recently (ended or solicited ones have no lesser right)", () -> {
            LocatorMapper x = withRow(9);
            for (int i = 0; i < 8; i++) {
                x.send(0, 4096 * i);
            }
            x.move(4, 4, 30);
            x.pass(60);
            x.move(0, 0, 31);
            due(31, () -> x.send(0, 0));
            x.pass(40);
            due(31, () -> x.send(0, 0));
            due(8, () -> x.send(0, 4096 * 8));
            dueRow(x, 2, 3, 4, 5, 6, 7, 0, 8);
            due(0, () -> x.lasts(0, 0));
            due(-1, () -> x.lasts(0, 2));
            due(60, () -> x.lasts(0, 6));
        });
        sentence("the one that was used least recently (NONE and UNREACHABLE use it too)", () -> {
            LocatorMapper x = withRow(9);
            for (int i = 1; i < 7; i++) {
                x.send(0, 4096 * i);
            }
            x.probe(0, 1, false);
            due(-1, () -> x.send(0, LAST));
            due(7, () -> x.send(0, 4096 * 7));
            due(-3, () -> x.send(0, 4096));
            due(-1, () -> x.send(0, LAST));
            due(8, () -> x.entries(0));
            due(8, () -> x.send(0, 4096 * 8));
            due(32 * 4096 * 3 + 4, () -> x.prefixOf(0, 0));
            due(32 * 4096 + 4, () -> x.prefixOf(0, 5));
            due(-1, () -> x.mappingAt(0, 6));
        });
        sentence("if there are 8 (another router's entries stay)", () -> {
            LocatorMapper x = withRow(9);
            for (int i = 0; i < 8; i++) {
                x.send(0, 4096 * i);
                x.send(1, 4096 * i);
            }
            x.send(0, 4096 * 8);
            due(4, () -> x.prefixOf(1, 0));
            due(32 * 4096 + 4, () -> x.prefixOf(0, 0));
        });
    }

    private static void negativeEntries() {
        sentence("With a negative entry the packet goes out natively, NONE", () -> {
            LocatorMapper x = withRow(1);
            due(-1, () -> x.send(0, 4096));
            due(-1, () -> x.send(0, 4096));
            due(1, () -> x.answers(0));
            due(0, () -> x.packetsTo(0, 0, 0));
            for (int address = 0; address < 32; address++) {
                x.probe(0, address, false);
            }
            due(-1, () -> x.send(0, 4096));
        });
        sentence("negative answers for the widest gap", () -> {
            LocatorMapper x = withRow(3);
            due(-1, () -> x.send(0, 13000));
            due(32 * 12288 + 4, () -> x.prefixOf(0, 0));
            due(-1, () -> x.send(0, 16384));
            due(32 * 16384 + 2, () -> x.prefixOf(0, 1));
            due(-1, () -> x.send(0, LAST));
            due(32 * 32768 + 1, () -> x.prefixOf(0, 2));
        });
    }

    private static void priorities() {
        sentence("those with the best priority are looked at", () -> {
            LocatorMapper x = new LocatorMapper();
            x.register(0, 0);
            x.addLocator(0, 3, 3, 10);
            x.addLocator(0, 2, 2, 10);
            x.addLocator(0, 1, 1, 10);
            x.addLocator(0, 0, 0, 1);
            for (int address = 0; address < 4; address++) {
                dueSends(x, address, address);
                x.probe(0, address, false);
            }
            dueSends(x, -3);
            for (int address = 3; address >= 0; address--) {
                x.probe(0, address, true);
                dueSends(x, address);
            }
            due(3, () -> x.packetsTo(0, 0, 0));
            due(3, () -> x.packetsTo(0, 0, 3));
        });
        sentence("if there are none, the packet is UNREACHABLE (no locators)", () -> {
            LocatorMapper x = withWeights();
            dueSends(x, -3, -3);
            due(1, () -> x.answers(0));
            due(1000, () -> x.mappingAt(0, 0));
            due(100, () -> x.lasts(0, 0));
        });
        sentence("if there are none, the packet is UNREACHABLE (none reachable)", () -> {
            LocatorMapper x = withWeights(1, 2);
            x.probe(0, 0, false);
            x.probe(0, 1, false);
            dueSends(x, -3, -3);
            due(1, () -> x.send(1, 0));
            due(0, () -> x.packetsTo(0, 0, 0));
            due(0, () -> x.packetsTo(0, 0, 1));
            x.probe(0, 0, true);
            dueSends(x, 0, 0);
            due(2, () -> x.answers(0));
        });
        sentence("locators with reachable addresses (as this router holds them)", () -> {
            LocatorMapper x = withWeights(1, 2);
            x.probe(1, 1, false);
            due(1, () -> x.send(0, 0));
            due(0, () -> x.send(1, 0));
            due(1, () -> x.send(2, 0));
        });
        sentence("reachable addresses (a moved locator is reachable as its new address is)", () -> {
            LocatorMapper x = withWeights(1);
            x.probe(0, 0, false);
            dueSends(x, -3);
            x.move(0, 0, 5);
            dueSends(x, 5);
            x.move(0, 5, 0);
            dueSends(x, -3);
        });
    }

    private static void shares() {
        sentence("of several to the first one", () -> {
            dueSends(withWeights(1, 1, 1, 1), 0, 1, 2, 3, 0, 1, 2, 3);
            dueSends(withWeights(10, 10), 0, 1, 0, 1);
            dueSends(withWeights(1, 2, 1), 1, 0, 2, 1, 1, 0, 2, 1);
        });
        sentence("weight * (N + 1) less W times how many packets went to it by this entry", () -> {
            dueSends(withWeights(1, 10), 1, 1, 1, 1, 1, 0, 1, 1, 1, 1, 1, 1);
            dueSends(withWeights(2, 3), 1, 0, 1, 0, 1, 1, 0, 1, 0, 1);
            dueSends(withWeights(7), 0, 0, 0);
        });
        sentence("packets went to these locators by this entry (a new one begins anew)", () -> {
            LocatorMapper x = withWeights(1, 1);
            dueSends(x, 0);
            x.pass(100);
            dueSends(x, 0, 1);
            x.addLocator(0, 2, 1, 1);
            dueSends(x, 0, 1);
            due(0, () -> x.send(1, 0));
        });
        sentence("packets are shared among locators by weights", () -> {
            LocatorMapper x = withWeights(1, 2, 3, 4);
            for (int i = 0; i < 400; i++) {
                x.send(0, i);
            }
            for (int address = 0; address < 4; address++) {
                int a = address;
                due(40 * (a + 1), () -> x.packetsTo(0, 0, a));
            }
        });
    }

    private static void sharesAfterProbes() {
        sentence("With N as how many packets went to these locators (to the others do not count)", () -> {
            LocatorMapper x = withWeights(1, 2, 10);
            x.probe(0, 0, false);
            x.probe(0, 1, false);
            dueSends(x, 2, 2, 2, 2, 2, 2, 2, 2, 2, 2);
            x.probe(0, 0, true);
            x.probe(0, 1, true);
            x.probe(0, 2, false);
            dueSends(x, 1, 0, 1, 1, 0, 1);
        });
        sentence("how many packets went to these locators by this entry, together (also ones from before a probe)", () -> {
            LocatorMapper x = withWeights(1, 1);
            x.probe(0, 1, false);
            dueSends(x, 0, 0, 0);
            x.probe(0, 1, true);
            dueSends(x, 1, 1, 1, 0, 1);
        });
        sentence("W as the sum of their weights (of those looked at alone)", () -> {
            LocatorMapper x = withWeights(3, 1, 10);
            x.probe(0, 2, false);
            dueSends(x, 0, 0, 1, 0, 0, 0, 1, 0);
        });
        sentence("these locators (of a worse priority none)", () -> {
            LocatorMapper x = withWeights(1, 2);
            x.addLocator(0, 2, 1, 10);
            dueSends(x, 1, 0, 1);
            x.probe(0, 0, false);
            x.probe(0, 1, false);
            dueSends(x, 2, 2, 2, 2, 2);
            x.probe(0, 0, true);
            x.probe(0, 1, true);
            dueSends(x, 1, 0, 1);
        });
    }

    private static void probe() {
        sentence("router: 0 to 2 (probe)", () -> {
            LocatorMapper x = new LocatorMapper();
            due(INDEX, () -> x.probe(-1, 0, false));
            due(INDEX, () -> x.probe(3, 0, false));
            due(INDEX, () -> x.probe(3, 32, false));
            due(1, () -> x.probe(0, 0, false));
            due(1, () -> x.probe(2, 0, false));
        });
        sentence("address: 0 to 31 (probe)", () -> {
            LocatorMapper x = new LocatorMapper();
            due(ARGUMENT, () -> x.probe(0, -1, false));
            due(ARGUMENT, () -> x.probe(0, 32, false));
            due(1, () -> x.probe(0, 0, false));
            due(2, () -> x.probe(0, 31, false));
            due(ARGUMENT, () -> x.probe(0, 32, true));
            due(2, () -> x.probe(0, 31, false));
        });
        sentence("Returns how many addresses the router holds for not reachable then", () -> {
            LocatorMapper x = new LocatorMapper();
            for (int address = 0; address < 32; address++) {
                int a = address;
                due(a, () -> x.probe(1, a, true));
                due(a + 1, () -> x.probe(1, a, false));
                due(a + 1, () -> x.probe(1, a, false));
            }
            for (int address = 0; address < 32; address++) {
                int a = address;
                due(31 - a, () -> x.probe(1, a, true));
            }
            due(0, () -> x.probe(0, 0, true));
        });
        sentence("Tells a router what a probe of an address told (and that alone)", () -> {
            LocatorMapper x = withRow(2);
            x.send(0, 0);
            x.send(0, 4096);
            x.probe(0, 0, false);
            dueRow(x, 0, 1);
            due(100, () -> x.lasts(0, 0));
            due(0, x::solicitations);
            due(1, () -> x.packetsTo(0, 0, 0));
        });
    }

    private static void setLifetimes() {
        sentence("positive: 1 to 1000 seconds", () -> {
            LocatorMapper x = withRow(1);
            due(ARGUMENT, () -> x.setLifetimes(0, 1));
            due(ARGUMENT, () -> x.setLifetimes(1001, 1));
            due(100, () -> x.setLifetimes(1, 1));
            x.send(0, 0);
            due(1, () -> x.lasts(0, 0));
            x.pass(1);
            due(0, () -> x.lasts(0, 0));
            due(1, () -> x.setLifetimes(1000, 1));
            x.send(0, 0);
            due(1000, () -> x.lasts(0, 0));
            x.pass(999);
            due(1, () -> x.lasts(0, 0));
            x.pass(1);
            due(0, () -> x.lasts(0, 0));
        });
        sentence("negative: 1 to 1000 seconds", () -> {
            LocatorMapper x = new LocatorMapper();
            due(ARGUMENT, () -> x.setLifetimes(1, 0));
            due(ARGUMENT, () -> x.setLifetimes(1, 1001));
            x.send(0, 0);
            due(20, () -> x.lasts(0, 0));
            due(100, () -> x.setLifetimes(1, 1000));
            x.send(1, 0);
            due(1000, () -> x.lasts(1, 0));
            due(1, () -> x.setLifetimes(1, 1));
            x.send(2, 0);
            due(1, () -> x.lasts(2, 0));
        });
        sentence("that are got from now on", () -> {
            LocatorMapper x = withRow(1);
            x.send(0, 0);
            x.send(0, 4096);
            x.setLifetimes(500, 300);
            due(100, () -> x.lasts(0, 0));
            due(20, () -> x.lasts(0, 1));
            x.send(0, 0);
            due(100, () -> x.lasts(0, 1));
            x.send(1, 0);
            x.send(1, 4096);
            due(500, () -> x.lasts(1, 0));
            due(300, () -> x.lasts(1, 1));
        });
        sentence("Returns how long positive ones lasted before", () -> {
            LocatorMapper x = new LocatorMapper();
            due(100, () -> x.setLifetimes(3, 4));
            due(ARGUMENT, () -> x.setLifetimes(9, 0));
            due(ARGUMENT, () -> x.setLifetimes(0, 9));
            due(3, () -> x.setLifetimes(5, 6));
            due(5, () -> x.setLifetimes(5, 7));
        });
    }

    private static void pass() {
        sentence("seconds: 1 to 1000", () -> {
            LocatorMapper x = new LocatorMapper();
            due(ARGUMENT, () -> x.pass(0));
            due(ARGUMENT, () -> x.pass(-1));
            due(ARGUMENT, () -> x.pass(1001));
            due(1, () -> x.pass(1));
            due(1001, () -> x.pass(1000));
        });
        sentence("Returns the time then", () -> {
            LocatorMapper x = new LocatorMapper();
            for (int i = 1; i <= 510; i++) {
                int time = 1000 * i;
                due(time, () -> x.pass(1000));
            }
            due(-1, () -> x.send(0, 0));
            due(20, () -> x.lasts(0, 0));
        });
    }
}
