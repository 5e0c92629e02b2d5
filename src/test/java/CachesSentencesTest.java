import java.util.function.Supplier;

/** The document's sentences on the caches (promises 18 to 23) that name an edge, each with a test of its own. */
public final class CachesSentencesTest {
    private static final String INDEX = Checks.INDEX;
    private static final String ARGUMENT = Checks.ARGUMENT;
    private static final int LAST = 65535;

    private static final Checks checks = new Checks();

    private static void sentence(String words, Runnable test) {
        checks.sentence(words, test);
    }

    private static void due(Object want, Supplier<Object> call) {
        checks.due(want, call);
    }

    public static void main(String[] args) {
        order();
        entries();
        entryNumbers();
        prefixOf();
        mappingAt();
        lasts();
        packetsTo();
        whatSolicits();
        howFarSolicited();
        solicitations();
        checks.end();
    }

    /** An object with the mappings i/4 (i times 4096), with locator i each. */
    private static LocatorMapper withRow(int count) {
        LocatorMapper x = new LocatorMapper();
        for (int i = 0; i < count; i++) {
            x.register(4096 * i, 4);
            x.addLocator(i, i, 0, 1);
        }
        return x;
    }

    private static void send(LocatorMapper x, int router, int count) {
        for (int i = 0; i < count; i++) {
            x.send(router, 4096 * i);
        }
    }

    private static void order() {
        sentence("entries are numbered from 0, the one that was used least recently first", () -> {
            LocatorMapper x = withRow(8);
            send(x, 0, 8);
            for (int i = 0; i < 8; i++) {
                int entry = i;
                due(32 * 4096 * entry + 4, () -> x.prefixOf(0, entry));
            }
            for (int i = 7; i >= 0; i--) {
                x.send(0, 4096 * i);
            }
            for (int i = 0; i < 8; i++) {
                int entry = i;
                due(2007 - entry, () -> x.mappingAt(0, entry));
            }
            x.send(0, 0);
            due(2000, () -> x.mappingAt(0, 7));
            due(2007, () -> x.mappingAt(0, 0));
        });
        sentence("the one that was used least recently first (a look at one is no use of it)", () -> {
            LocatorMapper x = withRow(2);
            send(x, 0, 2);
            x.prefixOf(0, 0);
            x.mappingAt(0, 0);
            x.lasts(0, 0);
            x.packetsTo(0, 0, 0);
            x.answerLength(0);
            due(4, () -> x.prefixOf(0, 0));
            due(2, () -> x.answers(0));
        });
        sentence("those that have ended or are solicited are entries as long as they are not taken out", () -> {
            LocatorMapper x = withRow(3);
            send(x, 0, 3);
            x.withdraw(1);
            x.pass(1000);
            due(3, () -> x.entries(0));
            due(2000, () -> x.mappingAt(0, 0));
            due(2001, () -> x.mappingAt(0, 1));
            due(1, () -> x.packetsTo(0, 1, 1));
            due(32 * 8192 + 4, () -> x.prefixOf(0, 2));
            due(-1, () -> x.send(0, 4096));
            due(3, () -> x.entries(0));
            due(-1, () -> x.mappingAt(0, 2));
        });
    }

    private static void entries() {
        sentence("Returns 0 to 8", () -> {
            LocatorMapper x = withRow(16);
            due(0, () -> x.entries(2));
            for (int i = 0; i < 16; i++) {
                x.send(2, 4096 * i);
                int wanted = Math.min(8, i + 1);
                due(wanted, () -> x.entries(2));
            }
            due(0, () -> x.entries(0));
            due(0, () -> x.entries(1));
        });
        sentence("if there is no such router (entries)", () -> {
            LocatorMapper x = new LocatorMapper();
            due(INDEX, () -> x.entries(-1));
            due(INDEX, () -> x.entries(3));
            due(0, () -> x.entries(0));
            due(0, () -> x.entries(2));
        });
    }

    private static void dueEntryRefused(LocatorMapper x, int router, int entry) {
        due(INDEX, () -> x.prefixOf(router, entry));
        due(INDEX, () -> x.mappingAt(router, entry));
        due(INDEX, () -> x.lasts(router, entry));
        due(INDEX, () -> x.packetsTo(router, entry, 0));
        due(INDEX, () -> x.packetsTo(router, entry, 32));
    }

    private static void entryNumbers() {
        sentence("entry: 0 or more, less than entries()", () -> {
            for (int count = 0; count <= 8; count++) {
                LocatorMapper x = withRow(8);
                send(x, 1, count);
                dueEntryRefused(x, 1, -1);
                dueEntryRefused(x, 1, count);
                dueEntryRefused(x, 1, 8);
                for (int i = 0; i < count; i++) {
                    int entry = i;
                    due(32 * 4096 * entry + 4, () -> x.prefixOf(1, entry));
                    due(2000 + entry, () -> x.mappingAt(1, entry));
                    due(100, () -> x.lasts(1, entry));
                    due(1, () -> x.packetsTo(1, entry, entry));
                }
            }
        });
        sentence("less than entries() (after some were taken out)", () -> {
            LocatorMapper x = withRow(4);
            send(x, 0, 4);
            x.register(0, 1);
            for (int i = 0; i < 4; i++) {
                x.withdraw(i);
            }
            due(-3, () -> x.send(0, 0));
            due(1, () -> x.entries(0));
            dueEntryRefused(x, 0, 1);
            dueEntryRefused(x, 0, 3);
            due(1, () -> x.prefixOf(0, 0));
        });
        sentence("if there is no such router or entry", () -> {
            LocatorMapper x = withRow(2);
            send(x, 0, 2);
            send(x, 2, 1);
            dueEntryRefused(x, -1, 0);
            dueEntryRefused(x, 3, 0);
            dueEntryRefused(x, 1, 0);
            dueEntryRefused(x, 2, 1);
        });
    }

    private static void prefixOf() {
        sentence("Returns 32 times the value, and the length, together", () -> {
            LocatorMapper x = new LocatorMapper();
            x.register(LAST, 16);
            x.send(0, LAST);
            due(32 * LAST + 16, () -> x.prefixOf(0, 0));
            x.send(0, LAST - 1);
            due(32 * (LAST - 1) + 16, () -> x.prefixOf(0, 1));
            x.send(0, 0);
            due(1, () -> x.prefixOf(0, 2));
            LocatorMapper y = new LocatorMapper();
            y.send(0, LAST);
            due(0, () -> y.prefixOf(0, 0));
        });
        sentence("Returns 32 times the value (bits behind the length are 0)", () -> {
            for (int length = 0; length <= 16; length++) {
                LocatorMapper x = new LocatorMapper();
                int value = 65536 - (65536 >> length);
                int wanted = 32 * value + length;
                x.register(value, length);
                x.send(0, LAST);
                due(wanted, () -> x.prefixOf(0, 0));
            }
        });
    }

    private static void mappingAt() {
        sentence("Returns 1000 times the version that it has of it, and the mapping, together", () -> {
            LocatorMapper x = new LocatorMapper();
            for (int i = 0; i < 24; i++) {
                x.register(i, 16);
            }
            x.send(0, 0);
            x.send(0, 23);
            due(1000, () -> x.mappingAt(0, 0));
            due(1023, () -> x.mappingAt(0, 1));
            x.addLocator(23, 0, 0, 1);
            due(1023, () -> x.mappingAt(0, 1));
            x.send(0, 23);
            due(2023, () -> x.mappingAt(0, 1));
            x.send(1, 23);
            x.withdraw(23);
            due(2023, () -> x.mappingAt(1, 0));
        });
        sentence("NONE if it is negative", () -> {
            LocatorMapper x = withRow(1);
            x.send(0, 0);
            x.withdraw(0);
            due(2000, () -> x.mappingAt(0, 0));
            x.send(0, 0);
            due(-1, () -> x.mappingAt(0, 0));
            x.register(0, 0);
            due(-1, () -> x.mappingAt(0, 0));
        });
    }

    private static void lasts() {
        sentence("Returns the seconds", () -> {
            LocatorMapper x = withRow(1);
            x.pass(5);
            x.send(0, 0);
            for (int left = 100; left > 0; left--) {
                int seconds = left;
                due(seconds, () -> x.lasts(0, 0));
                x.pass(1);
            }
            due(0, () -> x.lasts(0, 0));
        });
        sentence("0 if it has ended", () -> {
            LocatorMapper x = new LocatorMapper();
            x.send(0, 0);
            x.pass(20);
            due(0, () -> x.lasts(0, 0));
            x.pass(1);
            due(0, () -> x.lasts(0, 0));
            x.pass(1000);
            due(0, () -> x.lasts(0, 0));
        });
        sentence("NONE if it is solicited, ended or not", () -> {
            LocatorMapper x = withRow(2);
            send(x, 0, 2);
            x.move(0, 0, 9);
            due(-1, () -> x.lasts(0, 0));
            x.pass(100);
            due(-1, () -> x.lasts(0, 0));
            due(0, () -> x.lasts(0, 1));
            x.move(1, 1, 9);
            due(-1, () -> x.lasts(0, 1));
        });
        sentence("NONE if it is solicited (its follower is not)", () -> {
            LocatorMapper x = withRow(1);
            x.send(0, 0);
            x.move(0, 0, 9);
            x.pass(3);
            x.send(0, 0);
            due(100, () -> x.lasts(0, 0));
        });
    }

    private static void packetsTo() {
        sentence("Returns how many; 0 if the entry has no locator with it", () -> {
            LocatorMapper x = withRow(2);
            x.addLocator(0, 31, 1, 1);
            send(x, 0, 2);
            x.send(0, 0);
            due(2, () -> x.packetsTo(0, 1, 0));
            due(0, () -> x.packetsTo(0, 1, 31));
            due(0, () -> x.packetsTo(0, 1, 1));
            due(1, () -> x.packetsTo(0, 0, 1));
            due(0, () -> x.packetsTo(0, 0, 0));
            x.send(0, LAST);
            due(0, () -> x.packetsTo(0, 2, 0));
            due(0, () -> x.packetsTo(0, 2, 31));
        });
        sentence("address: 0 to 31 (packetsTo)", () -> {
            LocatorMapper x = withRow(1);
            x.addLocator(0, 31, 0, 1);
            x.send(0, 0);
            x.send(0, 0);
            due(1, () -> x.packetsTo(0, 0, 0));
            due(1, () -> x.packetsTo(0, 0, 31));
            due(ARGUMENT, () -> x.packetsTo(0, 0, -1));
            due(ARGUMENT, () -> x.packetsTo(0, 0, 32));
        });
        sentence("how many packets went to an address by an entry (an entry's locators are those of the answer)", () -> {
            LocatorMapper x = withRow(1);
            x.send(0, 0);
            x.move(0, 0, 9);
            due(1, () -> x.packetsTo(0, 0, 0));
            due(0, () -> x.packetsTo(0, 0, 9));
            x.send(0, 0);
            due(0, () -> x.packetsTo(0, 0, 0));
            due(1, () -> x.packetsTo(0, 0, 9));
            x.withdraw(0);
            due(1, () -> x.packetsTo(0, 0, 9));
            x.send(0, 0);
            due(0, () -> x.packetsTo(0, 0, 9));
        });
        sentence("went to an address by an entry (those of other routers do not count)", () -> {
            LocatorMapper x = withRow(1);
            x.send(0, 0);
            x.send(1, 0);
            x.send(1, 0);
            due(1, () -> x.packetsTo(0, 0, 0));
            due(2, () -> x.packetsTo(1, 0, 0));
        });
        sentence("how many packets went to an address (an UNREACHABLE one went to none)", () -> {
            LocatorMapper x = withRow(1);
            x.probe(0, 0, false);
            x.send(0, 0);
            due(0, () -> x.packetsTo(0, 0, 0));
        });
    }

    private static void whatSolicits() {
        sentence("Whenever a mapping is registered", () -> {
            LocatorMapper x = withRow(2);
            send(x, 0, 2);
            x.register(256, 8);
            due(-1, () -> x.lasts(0, 0));
            due(100, () -> x.lasts(0, 1));
            due(1, x::solicitations);
        });
        sentence("Whenever a mapping is registered, withdrawn", () -> {
            LocatorMapper x = withRow(2);
            send(x, 0, 2);
            x.withdraw(1);
            due(100, () -> x.lasts(0, 0));
            due(-1, () -> x.lasts(0, 1));
            due(1, x::solicitations);
        });
        sentence("or changed (addLocator, move, removeLocator)", () -> {
            LocatorMapper x = withRow(2);
            for (int i = 0; i < 3; i++) {
                send(x, 0, 2);
                if (i == 0) {
                    x.addLocator(1, 9, 3, 1);
                } else if (i == 1) {
                    x.move(1, 9, 8);
                } else {
                    x.removeLocator(1, 8);
                }
                int wanted = i + 1;
                due(100, () -> x.lasts(0, 0));
                due(-1, () -> x.lasts(0, 1));
                due(wanted, x::solicitations);
            }
        });
        sentence("a call that throws changes nothing (it solicits none)", () -> {
            LocatorMapper x = withRow(2);
            send(x, 0, 2);
            due(Checks.STATE, () -> x.register(0, 4));
            due(ARGUMENT, () -> x.register(1, 4));
            due(Checks.STATE, () -> x.addLocator(0, 0, 0, 1));
            due(ARGUMENT, () -> x.addLocator(0, 1, 0, 11));
            due(Checks.STATE, () -> x.move(0, 0, 0));
            due(Checks.STATE, () -> x.removeLocator(0, 1));
            due(INDEX, () -> x.withdraw(2));
            due(0, x::solicitations);
            due(100, () -> x.lasts(0, 0));
            due(100, () -> x.lasts(0, 1));
        });
        sentence("Whenever a mapping is registered, withdrawn, or changed (by no other call)", () -> {
            LocatorMapper x = withRow(2);
            send(x, 0, 2);
            x.delegate(0, 4, 3);
            x.setUp(0, false);
            x.probe(0, 0, false);
            x.setLifetimes(1, 1);
            x.pass(1000);
            due(0, x::solicitations);
            due(0, () -> x.lasts(0, 0));
        });
    }

    private static void howFarSolicited() {
        sentence("each entry of each router's cache", () -> {
            LocatorMapper x = withRow(8);
            for (int router = 0; router < 3; router++) {
                send(x, router, 8);
            }
            x.register(0, 0);
            due(24, x::solicitations);
            for (int i = 0; i < 24; i++) {
                int router = i / 8;
                int entry = i % 8;
                due(-1, () -> x.lasts(router, entry));
            }
        });
        sentence("whose prefix meets that of the mapping (its own, one within it, one around it, one beside)", () -> {
            LocatorMapper x = new LocatorMapper();
            x.register(0, 15);
            x.register(0, 16);
            x.register(32768, 1);
            x.send(0, 0);
            x.send(0, 1);
            x.send(0, 2);
            x.send(0, 32768);
            due(4, () -> x.entries(0));
            x.addLocator(1, 0, 0, 1);
            due(-1, () -> x.lasts(0, 0));
            due(100, () -> x.lasts(0, 1));
            x.addLocator(0, 0, 0, 1);
            due(-1, () -> x.lasts(0, 1));
            due(20, () -> x.lasts(0, 2));
            x.register(2, 16);
            due(-1, () -> x.lasts(0, 2));
            due(100, () -> x.lasts(0, 3));
            x.register(40000, 16);
            due(-1, () -> x.lasts(0, 3));
            due(4, x::solicitations);
        });
        sentence("whose prefix meets that of the mapping (negative ones too)", () -> {
            LocatorMapper x = withRow(1);
            x.send(0, LAST);
            x.send(0, 4096);
            x.register(49152, 2);
            due(-1, () -> x.lasts(0, 0));
            due(20, () -> x.lasts(0, 1));
            due(-3, () -> x.send(0, LAST));
        });
    }

    private static void solicitations() {
        sentence("Returns how often an entry that was not solicited was solicited", () -> {
            LocatorMapper x = withRow(1);
            due(0, x::solicitations);
            x.move(0, 0, 1);
            due(0, x::solicitations);
            x.send(0, 0);
            x.move(0, 1, 2);
            due(1, x::solicitations);
            x.move(0, 2, 3);
            x.withdraw(0);
            due(1, x::solicitations);
            x.send(0, 0);
            x.register(0, 0);
            due(2, x::solicitations);
        });
        sentence("how often an entry that was not solicited was solicited (ended ones too)", () -> {
            LocatorMapper x = withRow(1);
            x.send(0, 0);
            x.pass(100);
            x.move(0, 0, 1);
            due(1, x::solicitations);
            x.move(0, 1, 0);
            due(1, x::solicitations);
        });
        sentence("each entry of each router's cache (those that were taken out are none)", () -> {
            LocatorMapper x = withRow(9);
            send(x, 0, 9);
            x.move(0, 0, 30);
            due(0, x::solicitations);
            x.move(8, 8, 30);
            due(1, x::solicitations);
            x.register(0, 1);
            due(8, x::solicitations);
            x.register(32768, 1);
            due(8, x::solicitations);
        });
    }
}
