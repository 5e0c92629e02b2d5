import java.util.function.Supplier;

/** For each promise of the document its ordinary inputs, its edges and wrong inputs. */
public final class PromiseTest {
    private static final String INDEX = Checks.INDEX;
    private static final String ARGUMENT = Checks.ARGUMENT;
    private static final String STATE = Checks.STATE;
    private static final int LOWEST = Integer.MIN_VALUE;
    private static final int HIGHEST = Integer.MAX_VALUE;

    private static final Checks checks = new Checks();

    private static void due(Object want, Supplier<Object> call) {
        checks.due(want, call);
    }

    public static void main(String[] args) {
        newObject();
        register();
        registerSolicits();
        withdraw();
        addLocator();
        move();
        removeLocator();
        mappingOf();
        answerLength();
        answerLengthOfNegative();
        version();
        delegate();
        setUp();
        serverOf();
        answers();
        sendShares();
        sendKeepsToPriorities();
        sendAsks();
        sendTakesOut();
        sendTakesOutLeastUsed();
        sendKeepsSnapshot();
        probe();
        setLifetimes();
        pass();
        entries();
        prefixOf();
        mappingAt();
        lasts();
        packetsTo();
        solicitations();
        checks.end();
    }

    /** An object whose mapping 0 is 256/8 with the locators 1 (weight 1) and 2 (weight 2). */
    private static LocatorMapper withMapping() {
        LocatorMapper x = new LocatorMapper();
        x.register(256, 8);
        x.addLocator(0, 1, 0, 1);
        x.addLocator(0, 2, 0, 2);
        return x;
    }

    private static void newObject() {
        LocatorMapper x = new LocatorMapper();
        due(-1, () -> x.mappingOf(0));
        due(-1, () -> x.mappingOf(65535));
        due(17, () -> x.answerLength(0));
        due(INDEX, () -> x.version(0));
        due(0, () -> x.serverOf(0));
        for (int server = 0; server < 4; server++) {
            int s = server;
            due(0, () -> x.answers(s));
            due(true, () -> x.setUp(s, true));
        }
        for (int router = 0; router < 3; router++) {
            int r = router;
            due(0, () -> x.entries(r));
            due(INDEX, () -> x.lasts(r, 0));
            due(0, () -> x.probe(r, 5, true));
        }
        due(0, x::solicitations);
        due(1, () -> x.pass(1));
        due(-1, () -> x.send(0, 0));
        due(20, () -> x.lasts(0, 0));
        due(100, () -> x.setLifetimes(1, 1));
        LocatorMapper y = new LocatorMapper();
        due(0, () -> y.entries(0));
        due(100, () -> y.setLifetimes(1, 1));
        due(1, () -> y.pass(1));
    }

    private static void register() {
        LocatorMapper x = new LocatorMapper();
        due(0, () -> x.register(0, 0));
        due(1, () -> x.register(0, 16));
        due(2, () -> x.register(65535, 16));
        due(3, () -> x.register(32768, 1));
        due(1, () -> x.version(3));
        due(STATE, () -> x.register(0, 0));
        due(STATE, () -> x.register(32768, 1));
        due(4, () -> x.register(32768, 2));
        due(ARGUMENT, () -> x.register(-1, 16));
        due(ARGUMENT, () -> x.register(65536, 0));
        due(ARGUMENT, () -> x.register(65536, 16));
        due(ARGUMENT, () -> x.register(0, -1));
        due(ARGUMENT, () -> x.register(0, 17));
        due(ARGUMENT, () -> x.register(LOWEST, LOWEST));
        due(ARGUMENT, () -> x.register(HIGHEST, HIGHEST));
        due(ARGUMENT, () -> x.register(0, 32));
        due(ARGUMENT, () -> x.register(1, 15));
        due(ARGUMENT, () -> x.register(32768, 0));
        due(ARGUMENT, () -> x.register(65535, 15));
        due(INDEX, () -> x.version(5));
        due(4, () -> x.withdraw(3));
        due(5, () -> x.register(32768, 1));
        for (int i = 6; i < 24; i++) {
            int number = i;
            due(number, () -> x.register(number * 16, 12));
        }
        due(STATE, () -> x.register(16, 12));
        due(STATE, () -> x.register(32768, 1));
        due(ARGUMENT, () -> x.register(17, 12));
        due(22, () -> x.withdraw(0));
        due(STATE, () -> x.register(0, 0));
        due(1, () -> x.version(23));
        due(INDEX, () -> x.version(24));
    }

    private static void registerSolicits() {
        LocatorMapper x = new LocatorMapper();
        x.register(0, 1);
        x.register(32768, 2);
        x.send(0, 0);
        x.send(0, 32768);
        x.send(0, 65535);
        x.send(1, 5);
        due(ARGUMENT, () -> x.register(1, 4));
        due(STATE, () -> x.register(0, 1));
        due(0, x::solicitations);
        due(2, () -> x.register(256, 8));
        due(-1, () -> x.lasts(0, 0));
        due(100, () -> x.lasts(0, 1));
        due(20, () -> x.lasts(0, 2));
        due(-1, () -> x.lasts(1, 0));
        due(2, x::solicitations);
        due(3, () -> x.register(0, 0));
        due(-1, () -> x.lasts(0, 1));
        due(-1, () -> x.lasts(0, 2));
        due(4, x::solicitations);
    }

    private static void withdraw() {
        LocatorMapper x = withMapping();
        x.register(0, 1);
        x.send(0, 256);
        x.send(2, 40000);
        due(INDEX, () -> x.withdraw(-1));
        due(INDEX, () -> x.withdraw(2));
        due(INDEX, () -> x.withdraw(HIGHEST));
        due(INDEX, () -> x.withdraw(LOWEST));
        due(0, x::solicitations);
        due(1, () -> x.withdraw(0));
        due(1, x::solicitations);
        due(-1, () -> x.lasts(0, 0));
        due(20, () -> x.lasts(2, 0));
        due(STATE, () -> x.withdraw(0));
        due(1, () -> x.mappingOf(256));
        due(0, () -> x.withdraw(1));
        due(-1, () -> x.mappingOf(256));
        due(STATE, () -> x.withdraw(1));
        due(INDEX, () -> x.withdraw(2));
    }

    private static void addLocator() {
        LocatorMapper x = new LocatorMapper();
        due(INDEX, () -> x.addLocator(0, 1, 1, 1));
        x.register(0, 8);
        x.register(256, 8);
        x.send(0, 0);
        x.send(0, 256);
        due(INDEX, () -> x.addLocator(2, 99, 1, 1));
        due(INDEX, () -> x.addLocator(-1, 1, 1, 1));
        due(INDEX, () -> x.addLocator(LOWEST, 1, 1, 1));
        due(ARGUMENT, () -> x.addLocator(0, -1, 1, 1));
        due(ARGUMENT, () -> x.addLocator(0, 32, 1, 1));
        due(ARGUMENT, () -> x.addLocator(0, 1, -1, 1));
        due(ARGUMENT, () -> x.addLocator(0, 1, 4, 1));
        due(ARGUMENT, () -> x.addLocator(0, 1, 1, 0));
        due(ARGUMENT, () -> x.addLocator(0, 1, 1, 11));
        due(ARGUMENT, () -> x.addLocator(0, HIGHEST, HIGHEST, LOWEST));
        due(0, x::solicitations);
        due(1, () -> x.version(0));
        due(2, () -> x.addLocator(0, 0, 0, 1));
        due(-1, () -> x.lasts(0, 0));
        due(100, () -> x.lasts(0, 1));
        due(STATE, () -> x.addLocator(0, 0, 3, 10));
        due(3, () -> x.addLocator(0, 31, 3, 10));
        due(4, () -> x.addLocator(0, 7, 0, 1));
        due(5, () -> x.addLocator(0, 8, 0, 1));
        due(STATE, () -> x.addLocator(0, 9, 0, 1));
        due(ARGUMENT, () -> x.addLocator(0, 9, 0, 0));
        due(5, () -> x.version(0));
        due(2, () -> x.addLocator(1, 0, 0, 1));
        x.withdraw(1);
        due(STATE, () -> x.addLocator(1, 3, 0, 1));
        due(ARGUMENT, () -> x.addLocator(1, 32, 0, 1));
        due(2, x::solicitations);
    }

    private static void move() {
        LocatorMapper x = new LocatorMapper();
        x.register(0, 8);
        due(INDEX, () -> x.move(1, 0, 1));
        due(INDEX, () -> x.move(-1, 99, 1));
        due(STATE, () -> x.move(0, 0, 1));
        x.addLocator(0, 4, 0, 5);
        x.addLocator(0, 5, 0, 5);
        x.send(0, 0);
        due(ARGUMENT, () -> x.move(0, -1, 1));
        due(ARGUMENT, () -> x.move(0, 32, 1));
        due(ARGUMENT, () -> x.move(0, 4, -1));
        due(ARGUMENT, () -> x.move(0, 4, 32));
        due(ARGUMENT, () -> x.move(0, 9, HIGHEST));
        due(STATE, () -> x.move(0, 6, 7));
        due(STATE, () -> x.move(0, 4, 4));
        due(STATE, () -> x.move(0, 4, 5));
        due(0, x::solicitations);
        due(3, () -> x.version(0));
        due(4, () -> x.move(0, 4, 31));
        due(1, x::solicitations);
        due(31, () -> x.send(0, 0));
        due(5, () -> x.send(0, 0));
        due(5, () -> x.move(0, 5, 0));
        due(6, () -> x.move(0, 31, 5));
        due(5, () -> x.send(0, 0));
        due(0, () -> x.send(0, 0));
        x.withdraw(0);
        due(STATE, () -> x.move(0, 5, 6));
        due(ARGUMENT, () -> x.move(0, 5, 32));
    }

    private static void removeLocator() {
        LocatorMapper x = new LocatorMapper();
        x.register(0, 8);
        due(INDEX, () -> x.removeLocator(1, 0));
        due(INDEX, () -> x.removeLocator(-1, 32));
        due(STATE, () -> x.removeLocator(0, 0));
        x.addLocator(0, 0, 1, 5);
        x.addLocator(0, 1, 1, 2);
        x.addLocator(0, 2, 1, 3);
        x.addLocator(0, 3, 0, 1);
        due(ARGUMENT, () -> x.removeLocator(0, -1));
        due(ARGUMENT, () -> x.removeLocator(0, 32));
        due(STATE, () -> x.removeLocator(0, 4));
        due(3, () -> x.send(0, 0));
        due(0, x::solicitations);
        due(6, () -> x.removeLocator(0, 3));
        due(1, x::solicitations);
        due(STATE, () -> x.removeLocator(0, 3));
        due(7, () -> x.removeLocator(0, 0));
        due(2, () -> x.send(0, 0));
        due(1, () -> x.send(0, 0));
        due(2, () -> x.send(0, 0));
        due(8, () -> x.addLocator(0, 0, 1, 3));
        due(2, () -> x.send(0, 0));
        due(9, () -> x.removeLocator(0, 0));
        due(10, () -> x.removeLocator(0, 1));
        due(11, () -> x.removeLocator(0, 2));
        due(-3, () -> x.send(0, 0));
        x.addLocator(0, 5, 0, 1);
        x.addLocator(0, 6, 2, 1);
        x.addLocator(0, 7, 1, 1);
        due(15, () -> x.removeLocator(0, 5));
        due(7, () -> x.send(0, 0));
        x.probe(0, 7, false);
        due(6, () -> x.send(0, 0));
        x.withdraw(0);
        due(STATE, () -> x.removeLocator(0, 2));
        due(ARGUMENT, () -> x.removeLocator(0, 32));
    }

    private static void mappingOf() {
        LocatorMapper x = new LocatorMapper();
        x.register(256, 8);
        x.register(0, 0);
        x.register(256, 16);
        x.register(256, 12);
        due(2, () -> x.mappingOf(256));
        due(3, () -> x.mappingOf(257));
        due(3, () -> x.mappingOf(271));
        due(0, () -> x.mappingOf(272));
        due(0, () -> x.mappingOf(511));
        due(1, () -> x.mappingOf(512));
        due(1, () -> x.mappingOf(255));
        due(1, () -> x.mappingOf(65535));
        due(ARGUMENT, () -> x.mappingOf(-1));
        due(ARGUMENT, () -> x.mappingOf(65536));
        due(ARGUMENT, () -> x.mappingOf(LOWEST));
        x.withdraw(3);
        due(0, () -> x.mappingOf(257));
        x.withdraw(1);
        due(-1, () -> x.mappingOf(512));
        due(4, () -> x.register(256, 12));
        due(4, () -> x.mappingOf(257));
    }

    private static void answerLength() {
        LocatorMapper x = new LocatorMapper();
        x.register(0, 4);
        due(4, () -> x.answerLength(0));
        due(4, () -> x.answerLength(4095));
        x.register(256, 8);
        due(8, () -> x.answerLength(0));
        due(8, () -> x.answerLength(256));
        due(7, () -> x.answerLength(512));
        due(5, () -> x.answerLength(4095));
        x.register(0, 0);
        due(4, () -> x.answerLength(4096));
        due(1, () -> x.answerLength(65535));
        due(5, () -> x.answerLength(4095));
        x.register(4095, 16);
        due(16, () -> x.answerLength(4094));
        due(16, () -> x.answerLength(4095));
        due(15, () -> x.answerLength(4092));
        x.withdraw(1);
        due(5, () -> x.answerLength(0));
        x.withdraw(3);
        due(4, () -> x.answerLength(0));
        due(ARGUMENT, () -> x.answerLength(-1));
        due(ARGUMENT, () -> x.answerLength(65536));
        due(ARGUMENT, () -> x.answerLength(HIGHEST));
    }

    private static void answerLengthOfNegative() {
        LocatorMapper x = new LocatorMapper();
        due(17, () -> x.answerLength(65535));
        x.register(0, 16);
        due(18, () -> x.answerLength(65535));
        due(33, () -> x.answerLength(1));
        due(32, () -> x.answerLength(2));
        due(16, () -> x.answerLength(0));
        x.register(49152, 2);
        due(19, () -> x.answerLength(32768));
        due(2, () -> x.answerLength(65535));
        due(19, () -> x.answerLength(16384));
        x.withdraw(0);
        due(18, () -> x.answerLength(0));
        x.withdraw(1);
        due(17, () -> x.answerLength(0));
    }

    private static void version() {
        LocatorMapper x = new LocatorMapper();
        due(INDEX, () -> x.version(0));
        x.register(0, 0);
        x.register(0, 1);
        due(1, () -> x.version(0));
        x.addLocator(0, 1, 1, 1);
        x.move(0, 1, 2);
        x.removeLocator(0, 2);
        due(4, () -> x.version(0));
        due(1, () -> x.version(1));
        due(INDEX, () -> x.version(2));
        due(INDEX, () -> x.version(-1));
        due(INDEX, () -> x.version(LOWEST));
        x.withdraw(0);
        due(-1, () -> x.version(0));
        due(1, () -> x.version(1));
    }

    private static void delegate() {
        LocatorMapper x = new LocatorMapper();
        due(INDEX, () -> x.delegate(0, 0, -1));
        due(INDEX, () -> x.delegate(0, 0, 4));
        due(INDEX, () -> x.delegate(-1, 99, 4));
        due(ARGUMENT, () -> x.delegate(-1, 0, 0));
        due(ARGUMENT, () -> x.delegate(65536, 16, 0));
        due(ARGUMENT, () -> x.delegate(0, -1, 0));
        due(ARGUMENT, () -> x.delegate(0, 17, 0));
        due(ARGUMENT, () -> x.delegate(1, 15, 0));
        LocatorMapper y = new LocatorMapper();
        due(1, () -> y.delegate(65535, 16, 3));
        due(2, () -> y.delegate(0, 0, 3));
        due(1, () -> x.delegate(0, 0, 3));
        due(1, () -> x.delegate(0, 0, 2));
        due(2, () -> x.serverOf(9));
        for (int i = 1; i < 12; i++) {
            int length = i;
            due(length + 1, () -> x.delegate(0, length, length % 4));
        }
        due(STATE, () -> x.delegate(0, 12, 1));
        due(STATE, () -> x.delegate(32768, 1, 1));
        due(ARGUMENT, () -> x.delegate(1, 12, 1));
        due(INDEX, () -> x.delegate(1, 12, 4));
        due(12, () -> x.delegate(0, 11, 1));
        due(1, () -> x.serverOf(9));
        due(12, () -> x.delegate(0, 0, 3));
        due(3, () -> x.serverOf(65535));
    }

    private static void setUp() {
        LocatorMapper x = new LocatorMapper();
        due(true, () -> x.setUp(3, false));
        due(false, () -> x.setUp(3, false));
        due(false, () -> x.setUp(3, true));
        due(true, () -> x.setUp(3, true));
        due(true, () -> x.setUp(0, true));
        due(INDEX, () -> x.setUp(4, true));
        due(INDEX, () -> x.setUp(-1, false));
        due(INDEX, () -> x.setUp(LOWEST, false));
        due(true, () -> x.setUp(0, false));
        due(true, () -> x.setUp(1, true));
        due(-2, () -> x.send(0, 0));
    }

    private static void serverOf() {
        LocatorMapper x = new LocatorMapper();
        x.delegate(32768, 1, 1);
        x.delegate(32768, 4, 2);
        x.delegate(32768, 2, 3);
        due(0, () -> x.serverOf(32767));
        due(2, () -> x.serverOf(32768));
        due(2, () -> x.serverOf(36863));
        due(3, () -> x.serverOf(36864));
        due(3, () -> x.serverOf(49151));
        due(1, () -> x.serverOf(49152));
        due(1, () -> x.serverOf(65535));
        x.delegate(65535, 16, 0);
        due(0, () -> x.serverOf(65535));
        x.delegate(0, 0, 3);
        due(3, () -> x.serverOf(0));
        x.setUp(3, false);
        due(3, () -> x.serverOf(0));
        due(ARGUMENT, () -> x.serverOf(-1));
        due(ARGUMENT, () -> x.serverOf(65536));
    }

    private static void answers() {
        LocatorMapper x = withMapping();
        x.delegate(32768, 1, 3);
        x.send(0, 256);
        x.send(0, 257);
        x.send(1, 256);
        x.send(0, 0);
        due(3, () -> x.answers(0));
        due(0, () -> x.answers(3));
        x.send(0, 32768);
        due(1, () -> x.answers(3));
        x.setUp(3, false);
        due(-2, () -> x.send(1, 32768));
        due(1, () -> x.answers(3));
        due(INDEX, () -> x.answers(4));
        due(INDEX, () -> x.answers(-1));
        due(INDEX, () -> x.answers(HIGHEST));
        x.answerLength(0);
        due(3, () -> x.answers(0));
        due(INDEX, () -> x.send(3, 65535));
        due(ARGUMENT, () -> x.send(2, 65536));
        due(3, () -> x.answers(0));
    }

    private static void sendShares() {
        LocatorMapper x = new LocatorMapper();
        x.register(0, 0);
        x.addLocator(0, 9, 1, 2);
        x.addLocator(0, 8, 1, 3);
        x.addLocator(0, 7, 1, 2);
        due(INDEX, () -> x.send(3, 0));
        due(INDEX, () -> x.send(-1, -1));
        due(ARGUMENT, () -> x.send(0, -1));
        due(ARGUMENT, () -> x.send(0, 65536));
        due(0, () -> x.entries(0));
        int[] wanted = {8, 9, 7, 8, 9, 7, 8, 8, 9, 7, 8, 9, 7, 8};
        for (int i = 0; i < wanted.length; i++) {
            int identifier = i * 4000;
            due(wanted[i], () -> x.send(2, identifier));
        }
        due(4, () -> x.packetsTo(2, 0, 9));
        due(6, () -> x.packetsTo(2, 0, 8));
        due(4, () -> x.packetsTo(2, 0, 7));
        x.probe(2, 8, false);
        due(9, () -> x.send(2, 0));
        due(7, () -> x.send(2, 0));
        due(9, () -> x.send(2, 0));
        x.probe(2, 8, true);
        due(8, () -> x.send(2, 0));
        due(8, () -> x.send(2, 0));
        due(8, () -> x.send(1, 0));
        x.register(65535, 16);
        x.addLocator(1, 1, 0, 1);
        x.addLocator(1, 2, 0, 10);
        for (int i = 0; i < 11; i++) {
            int wantedThen = i == 5 ? 1 : 2;
            due(wantedThen, () -> x.send(0, 65535));
        }
    }

    private static void sendKeepsToPriorities() {
        LocatorMapper x = new LocatorMapper();
        x.register(0, 0);
        due(-3, () -> x.send(0, 0));
        due(1, () -> x.entries(0));
        x.addLocator(0, 0, 3, 10);
        x.addLocator(0, 1, 0, 1);
        x.addLocator(0, 2, 2, 5);
        x.addLocator(0, 3, 0, 1);
        due(1, () -> x.send(0, 0));
        due(3, () -> x.send(0, 0));
        due(1, () -> x.send(0, 0));
        x.probe(0, 1, false);
        due(3, () -> x.send(0, 0));
        due(3, () -> x.send(0, 0));
        x.probe(0, 3, false);
        due(2, () -> x.send(0, 0));
        due(1, () -> x.send(1, 0));
        x.probe(0, 2, false);
        due(0, () -> x.send(0, 0));
        x.probe(0, 0, false);
        due(-3, () -> x.send(0, 0));
        due(100, () -> x.lasts(0, 0));
        due(2, () -> x.packetsTo(0, 0, 1));
        due(3, () -> x.packetsTo(0, 0, 3));
        x.probe(0, 1, true);
        due(1, () -> x.send(0, 0));
        due(3, () -> x.answers(0));
        x.register(0, 16);
        x.addLocator(1, 4, 1, 1);
        x.addLocator(1, 5, 2, 1);
        due(4, () -> x.send(2, 0));
        due(4, () -> x.send(2, 0));
    }

    private static void sendAsks() {
        LocatorMapper x = withMapping();
        due(-1, () -> x.send(0, 0));
        due(2, () -> x.send(0, 256));
        x.pass(19);
        due(-1, () -> x.send(0, 255));
        due(2, () -> x.answers(0));
        x.pass(1);
        x.setUp(0, false);
        due(-2, () -> x.send(0, 255));
        due(1, () -> x.send(0, 511));
        due(2, () -> x.entries(0));
        due(8, () -> x.prefixOf(0, 0));
        due(0, () -> x.lasts(0, 0));
        x.pass(79);
        due(2, () -> x.send(0, 511));
        x.pass(1);
        due(-2, () -> x.send(0, 511));
        x.delegate(256, 16, 1);
        due(-2, () -> x.send(0, 511));
        due(2, () -> x.send(0, 256));
        due(1, () -> x.answers(1));
        due(2, () -> x.entries(0));
        due(100, () -> x.lasts(0, 1));
        x.move(0, 1, 3);
        x.setUp(1, false);
        due(-2, () -> x.send(0, 256));
        due(-1, () -> x.lasts(0, 1));
        x.setUp(1, true);
        due(2, () -> x.send(0, 256));
        due(4000, () -> x.mappingAt(0, 1));
    }

    private static void sendTakesOut() {
        LocatorMapper x = new LocatorMapper();
        x.register(0, 1);
        x.register(0, 4);
        x.register(8192, 4);
        x.send(0, 0);
        x.send(0, 8192);
        x.send(0, 40000);
        x.send(0, 16384);
        x.send(1, 0);
        due(4, () -> x.entries(0));
        x.withdraw(1);
        x.withdraw(2);
        due(-3, () -> x.send(0, 20000));
        due(4, () -> x.entries(0));
        due(-3, () -> x.send(0, 4096));
        due(2, () -> x.entries(0));
        due(32 * 32768 + 1, () -> x.prefixOf(0, 0));
        due(1, () -> x.prefixOf(0, 1));
        due(20, () -> x.lasts(0, 0));
        due(1, () -> x.entries(1));
        due(-1, () -> x.lasts(1, 0));
    }

    private static void sendTakesOutLeastUsed() {
        LocatorMapper x = new LocatorMapper();
        for (int i = 0; i < 9; i++) {
            x.register(i * 4096, 4);
        }
        for (int i = 0; i < 8; i++) {
            due(-3, () -> x.send(0, 0));
            int identifier = i * 4096;
            due(-3, () -> x.send(0, identifier));
        }
        due(8, () -> x.entries(0));
        due(32 * 4096 + 4, () -> x.prefixOf(0, 0));
        due(4, () -> x.prefixOf(0, 6));
        due(32 * 28672 + 4, () -> x.prefixOf(0, 7));
        due(-1, () -> x.send(0, 65535));
        due(8, () -> x.entries(0));
        due(32 * 8192 + 4, () -> x.prefixOf(0, 0));
        due(32 * 49152 + 2, () -> x.prefixOf(0, 7));
        x.addLocator(2, 1, 1, 1);
        due(1, () -> x.send(0, 8192));
        due(8, () -> x.entries(0));
        due(32 * 12288 + 4, () -> x.prefixOf(0, 0));
        due(-3, () -> x.send(0, 12288));
        due(-1, () -> x.send(0, 65535));
        due(32 * 16384 + 4, () -> x.prefixOf(0, 0));
        due(32 * 49152 + 2, () -> x.prefixOf(0, 7));
        due(32 * 12288 + 4, () -> x.prefixOf(0, 6));
        due(32 * 8192 + 4, () -> x.prefixOf(0, 5));
    }

    private static void sendKeepsSnapshot() {
        LocatorMapper x = withMapping();
        x.send(0, 256);
        x.removeLocator(0, 2);
        due(1, () -> x.packetsTo(0, 0, 2));
        due(1, () -> x.send(0, 256));
        due(0, () -> x.packetsTo(0, 0, 2));
        due(1, () -> x.packetsTo(0, 0, 1));
        x.withdraw(0);
        due(1, () -> x.packetsTo(0, 0, 1));
        due(-1, () -> x.send(0, 256));
        due(1, () -> x.entries(0));
        due(0, () -> x.packetsTo(0, 0, 1));
        due(-1, () -> x.mappingAt(0, 0));
    }

    private static void probe() {
        LocatorMapper x = new LocatorMapper();
        due(INDEX, () -> x.probe(3, 0, false));
        due(INDEX, () -> x.probe(-1, 99, false));
        due(ARGUMENT, () -> x.probe(0, -1, false));
        due(ARGUMENT, () -> x.probe(0, 32, false));
        due(ARGUMENT, () -> x.probe(0, LOWEST, true));
        due(0, () -> x.probe(0, 0, true));
        due(1, () -> x.probe(0, 0, false));
        due(1, () -> x.probe(0, 0, false));
        due(2, () -> x.probe(0, 31, false));
        due(1, () -> x.probe(2, 31, false));
        due(1, () -> x.probe(0, 0, true));
        due(1, () -> x.probe(0, 0, true));
        due(0, () -> x.probe(0, 31, true));
        due(0, () -> x.probe(2, 31, true));
    }

    private static void setLifetimes() {
        LocatorMapper x = withMapping();
        due(ARGUMENT, () -> x.setLifetimes(0, 1));
        due(ARGUMENT, () -> x.setLifetimes(1, 0));
        due(ARGUMENT, () -> x.setLifetimes(1001, 1));
        due(ARGUMENT, () -> x.setLifetimes(1, 1001));
        due(ARGUMENT, () -> x.setLifetimes(LOWEST, HIGHEST));
        x.send(0, 0);
        x.send(0, 256);
        due(100, () -> x.setLifetimes(1, 1000));
        due(20, () -> x.lasts(0, 0));
        due(100, () -> x.lasts(0, 1));
        x.send(1, 0);
        x.send(1, 256);
        due(1000, () -> x.lasts(1, 0));
        due(1, () -> x.lasts(1, 1));
        due(ARGUMENT, () -> x.setLifetimes(7, 0));
        due(1, () -> x.setLifetimes(1000, 1));
        due(1000, () -> x.setLifetimes(1000, 1));
        x.send(2, 256);
        due(1000, () -> x.lasts(2, 0));
    }

    private static void pass() {
        LocatorMapper x = new LocatorMapper();
        due(1, () -> x.pass(1));
        due(1001, () -> x.pass(1000));
        due(ARGUMENT, () -> x.pass(0));
        due(ARGUMENT, () -> x.pass(-1));
        due(ARGUMENT, () -> x.pass(1001));
        due(ARGUMENT, () -> x.pass(LOWEST));
        due(1003, () -> x.pass(2));
    }

    private static void entries() {
        LocatorMapper x = withMapping();
        due(INDEX, () -> x.entries(3));
        due(INDEX, () -> x.entries(-1));
        due(INDEX, () -> x.entries(LOWEST));
        x.send(1, 0);
        x.send(1, 256);
        x.send(1, 1);
        due(0, () -> x.entries(0));
        due(2, () -> x.entries(1));
        x.pass(1000);
        due(2, () -> x.entries(1));
        x.withdraw(0);
        due(2, () -> x.entries(1));
        x.send(1, 65535);
        due(1, () -> x.entries(1));
    }

    private static void prefixOf() {
        LocatorMapper x = withMapping();
        x.register(65535, 16);
        x.send(0, 300);
        x.send(0, 65535);
        x.send(0, 32768);
        due(INDEX, () -> x.prefixOf(0, 3));
        due(INDEX, () -> x.prefixOf(0, -1));
        due(INDEX, () -> x.prefixOf(0, HIGHEST));
        due(INDEX, () -> x.prefixOf(1, 0));
        due(INDEX, () -> x.prefixOf(3, 0));
        due(INDEX, () -> x.prefixOf(-1, 0));
        due(32 * 256 + 8, () -> x.prefixOf(0, 0));
        due(32 * 65535 + 16, () -> x.prefixOf(0, 1));
        due(32 * 32768 + 2, () -> x.prefixOf(0, 2));
        x.send(0, 300);
        due(32 * 65535 + 16, () -> x.prefixOf(0, 0));
        due(32 * 256 + 8, () -> x.prefixOf(0, 2));
    }

    private static void mappingAt() {
        LocatorMapper x = withMapping();
        x.register(512, 8);
        x.send(0, 300);
        x.send(0, 512);
        x.send(0, 0);
        due(INDEX, () -> x.mappingAt(0, 3));
        due(INDEX, () -> x.mappingAt(0, -1));
        due(INDEX, () -> x.mappingAt(2, 0));
        due(INDEX, () -> x.mappingAt(3, 0));
        due(INDEX, () -> x.mappingAt(-1, 0));
        due(3000, () -> x.mappingAt(0, 0));
        due(1001, () -> x.mappingAt(0, 1));
        due(-1, () -> x.mappingAt(0, 2));
        x.removeLocator(0, 1);
        x.withdraw(1);
        due(3000, () -> x.mappingAt(0, 0));
        due(1001, () -> x.mappingAt(0, 1));
        x.send(1, 300);
        due(4000, () -> x.mappingAt(1, 0));
    }

    private static void lasts() {
        LocatorMapper x = withMapping();
        x.send(0, 300);
        x.send(0, 0);
        due(INDEX, () -> x.lasts(0, 2));
        due(INDEX, () -> x.lasts(0, -1));
        due(INDEX, () -> x.lasts(3, 0));
        due(INDEX, () -> x.lasts(-1, 0));
        due(INDEX, () -> x.lasts(1, 0));
        due(100, () -> x.lasts(0, 0));
        due(20, () -> x.lasts(0, 1));
        x.pass(19);
        due(81, () -> x.lasts(0, 0));
        due(1, () -> x.lasts(0, 1));
        x.pass(1);
        due(0, () -> x.lasts(0, 1));
        x.pass(80);
        due(0, () -> x.lasts(0, 0));
        x.pass(1000);
        due(0, () -> x.lasts(0, 0));
        x.move(0, 1, 3);
        due(-1, () -> x.lasts(0, 0));
        due(0, () -> x.lasts(0, 1));
        x.send(0, 300);
        due(100, () -> x.lasts(0, 1));
        x.pass(1);
        x.move(0, 3, 1);
        due(-1, () -> x.lasts(0, 1));
    }

    private static void packetsTo() {
        LocatorMapper x = withMapping();
        x.addLocator(0, 31, 1, 1);
        x.send(0, 300);
        x.send(0, 300);
        x.send(0, 300);
        x.send(0, 300);
        x.send(0, 0);
        due(INDEX, () -> x.packetsTo(0, 2, 1));
        due(INDEX, () -> x.packetsTo(0, -1, 99));
        due(INDEX, () -> x.packetsTo(3, 0, 1));
        due(INDEX, () -> x.packetsTo(-1, 0, 32));
        due(ARGUMENT, () -> x.packetsTo(0, 0, -1));
        due(ARGUMENT, () -> x.packetsTo(0, 0, 32));
        due(ARGUMENT, () -> x.packetsTo(0, 1, HIGHEST));
        due(1, () -> x.packetsTo(0, 0, 1));
        due(3, () -> x.packetsTo(0, 0, 2));
        due(0, () -> x.packetsTo(0, 0, 31));
        due(0, () -> x.packetsTo(0, 0, 3));
        due(0, () -> x.packetsTo(0, 1, 1));
        x.pass(100);
        due(3, () -> x.packetsTo(0, 0, 2));
        x.send(0, 300);
        due(1, () -> x.packetsTo(0, 1, 2));
        due(0, () -> x.packetsTo(0, 1, 1));
    }

    private static void solicitations() {
        LocatorMapper x = withMapping();
        x.register(512, 8);
        x.send(0, 300);
        x.send(1, 300);
        x.send(2, 512);
        due(0, x::solicitations);
        x.removeLocator(0, 1);
        due(2, x::solicitations);
        x.addLocator(0, 1, 0, 1);
        x.register(256, 12);
        due(2, x::solicitations);
        x.pass(1000);
        x.withdraw(1);
        due(3, x::solicitations);
        x.send(0, 256);
        x.withdraw(2);
        due(4, x::solicitations);
        due(STATE, () -> x.withdraw(2));
        due(4, x::solicitations);
        LocatorMapper y = new LocatorMapper();
        y.send(0, 0);
        y.register(0, 16);
        due(1, y::solicitations);
        y.send(0, 1);
        due(20, () -> y.lasts(0, 0));
        y.withdraw(0);
        due(1, y::solicitations);
        y.register(1, 16);
        due(2, y::solicitations);
    }
}
