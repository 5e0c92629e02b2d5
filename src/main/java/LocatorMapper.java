/** A mapper of identifiers to locators. */
public final class LocatorMapper {
    public static final int NONE = -1;
    public static final int UNANSWERED = -2, UNREACHABLE = -3;

    private static final int BITS = 16;
    private static final int IDENTIFIERS = 1 << BITS;
    private static final int NEGATIVE_LENGTH = BITS + 1;
    private static final int VALUE_STEP = 32;
    private static final int VERSION_STEP = 1000;
    private static final int MAPPINGS = 24;
    private static final int LOCATORS = 4;
    private static final int ADDRESSES = 32;
    private static final int PRIORITIES = 4;
    private static final int MOST_WEIGHT = 10;
    private static final int SERVERS = 4;
    private static final int DELEGATIONS = 12;
    private static final int ROUTERS = 3;
    private static final int ENTRIES = 8;
    private static final int MOST_SECONDS = 1000;

    private final Registry registry = new Registry();
    private final Servers servers = new Servers();
    private final Router[] routers = new Router[ROUTERS];
    private int time = 0;
    private int positiveLifetime = 100;
    private int negativeLifetime = 20;
    private int solicited = 0;

    public LocatorMapper() {
        for (int i = 0; i < ROUTERS; i++) {
            routers[i] = new Router();
        }
    }

    // ---- the registry

    public int register(int value, int length) throws IllegalArgumentException, IllegalStateException {
        requirePrefix(value, length);
        if (registry.count >= MAPPINGS || registry.has(value, length)) {
            throw new IllegalStateException("the prefix is taken, or there is no room for a mapping");
        }
        int mapping = registry.add(value, length);
        solicit(registry.mappings[mapping].prefix);
        return mapping;
    }

    public int withdraw(int mapping) throws IndexOutOfBoundsException, IllegalStateException {
        Mapping withdrawn = requireMapping(mapping);
        requireRegistered(withdrawn);
        withdrawn.isWithdrawn = true;
        solicit(withdrawn.prefix);
        return registry.countRegistered();
    }

    public int addLocator(int mapping, int address, int priority, int weight)
            throws IndexOutOfBoundsException, IllegalArgumentException, IllegalStateException {
        Mapping changed = requireMapping(mapping);
        requireAddress(address);
        requireWithin(priority, 0, PRIORITIES - 1);
        requireWithin(weight, 1, MOST_WEIGHT);
        requireRegistered(changed);
        Locators locators = changed.locators;
        if (locators.count >= LOCATORS || locators.placeOf(address) != NONE) {
            throw new IllegalStateException("the address is taken, or there is no room for a locator");
        }
        locators.add(address, priority, weight);
        return tellChange(changed);
    }

    public int move(int mapping, int address, int other)
            throws IndexOutOfBoundsException, IllegalArgumentException, IllegalStateException {
        Mapping changed = requireMapping(mapping);
        requireAddress(address);
        requireAddress(other);
        int place = requireLocator(changed, address);
        if (changed.locators.placeOf(other) != NONE) {
            throw new IllegalStateException("the other address is taken");
        }
        changed.locators.addresses[place] = other;
        return tellChange(changed);
    }

    public int removeLocator(int mapping, int address)
            throws IndexOutOfBoundsException, IllegalArgumentException, IllegalStateException {
        Mapping changed = requireMapping(mapping);
        requireAddress(address);
        int place = requireLocator(changed, address);
        changed.locators.removeAt(place);
        return tellChange(changed);
    }

    public int mappingOf(int identifier) throws IllegalArgumentException {
        requireIdentifier(identifier);
        return registry.find(identifier);
    }

    public int answerLength(int identifier) throws IllegalArgumentException {
        requireIdentifier(identifier);
        int mapping = registry.find(identifier);
        int length = registry.narrow(identifier, mapping);
        return mapping == NONE ? length + NEGATIVE_LENGTH : length;
    }

    public int version(int mapping) throws IndexOutOfBoundsException {
        Mapping asked = requireMapping(mapping);
        return asked.isWithdrawn ? NONE : asked.version;
    }

    // ---- servers

    public int delegate(int value, int length, int server)
            throws IndexOutOfBoundsException, IllegalArgumentException, IllegalStateException {
        requireIndex(server, SERVERS);
        requirePrefix(value, length);
        int place = servers.placeOf(value, length);
        if (place == NONE && servers.count >= DELEGATIONS) {
            throw new IllegalStateException("there is no room for a delegated prefix");
        }
        if (place == NONE) {
            servers.add(value, length, server);
        } else {
            servers.delegatedTo[place] = server;
        }
        return servers.count;
    }

    public boolean setUp(int server, boolean is) throws IndexOutOfBoundsException {
        requireIndex(server, SERVERS);
        boolean was = !servers.isDown[server];
        servers.isDown[server] = !is;
        return was;
    }

    public int serverOf(int identifier) throws IllegalArgumentException {
        requireIdentifier(identifier);
        return servers.find(identifier);
    }

    public int answers(int server) throws IndexOutOfBoundsException {
        requireIndex(server, SERVERS);
        return servers.answered[server];
    }

    // ---- routers

    public int send(int router, int identifier) throws IndexOutOfBoundsException, IllegalArgumentException {
        Router sender = requireRouter(router);
        requireIdentifier(identifier);
        int place = sender.find(identifier, time);
        if (place == NONE) {
            int server = servers.find(identifier);
            if (servers.isDown[server]) {
                return UNANSWERED;
            }
            servers.answered[server]++;
            place = keepAnswer(sender, identifier);
        }
        Entry used = sender.moveToEnd(place);
        return used.sendPacket(sender.isUnreachable);
    }

    public int probe(int router, int address, boolean isReachable)
            throws IndexOutOfBoundsException, IllegalArgumentException {
        Router told = requireRouter(router);
        requireAddress(address);
        told.isUnreachable[address] = !isReachable;
        return told.countUnreachable();
    }

    public int setLifetimes(int positive, int negative) throws IllegalArgumentException {
        requireWithin(positive, 1, MOST_SECONDS);
        requireWithin(negative, 1, MOST_SECONDS);
        int before = positiveLifetime;
        positiveLifetime = positive;
        negativeLifetime = negative;
        return before;
    }

    public int pass(int seconds) throws IllegalArgumentException {
        requireWithin(seconds, 1, MOST_SECONDS);
        time += seconds;
        return time;
    }

    // ---- caches

    public int entries(int router) throws IndexOutOfBoundsException {
        return requireRouter(router).count;
    }

    public int prefixOf(int router, int entry) throws IndexOutOfBoundsException {
        Prefix prefix = requireEntry(router, entry).prefix;
        return VALUE_STEP * prefix.value + prefix.length;
    }

    public int mappingAt(int router, int entry) throws IndexOutOfBoundsException {
        Entry asked = requireEntry(router, entry);
        return asked.mapping == NONE ? NONE : VERSION_STEP * asked.version + asked.mapping;
    }

    public int lasts(int router, int entry) throws IndexOutOfBoundsException {
        Entry asked = requireEntry(router, entry);
        if (asked.isSolicited) {
            return NONE;
        }
        return asked.hasEnded(time) ? 0 : asked.end - time;
    }

    public int packetsTo(int router, int entry, int address)
            throws IndexOutOfBoundsException, IllegalArgumentException {
        Entry asked = requireEntry(router, entry);
        requireAddress(address);
        int place = asked.locators.placeOf(address);
        return place == NONE ? 0 : asked.packets[place];
    }

    public int solicitations() {
        return solicited;
    }

    // ---- what the calls have in common

    private int tellChange(Mapping changed) {
        changed.version++;
        solicit(changed.prefix);
        return changed.version;
    }

    private void solicit(Prefix changed) {
        for (int i = 0; i < ROUTERS; i++) {
            solicited += routers[i].solicitMeeting(changed);
        }
    }

    private int keepAnswer(Router asker, int identifier) {
        int mapping = registry.find(identifier);
        int length = registry.narrow(identifier, mapping);
        int value = firstBits(identifier, length);
        int place = asker.makeRoom(value, length);
        Entry kept = asker.entries[place];
        kept.prefix.set(value, length);
        if (mapping == NONE) {
            kept.keepNegative(time + negativeLifetime);
        } else {
            kept.keepPositive(mapping, registry.mappings[mapping], time + positiveLifetime);
        }
        return place;
    }

    private static int firstBits(int identifier, int length) {
        return identifier & -(1 << (BITS - length));
    }

    // ---- refusals

    private static void requireIndex(int index, int count) {
        if (index < 0 || index >= count) {
            throw new IndexOutOfBoundsException("there is none with this number");
        }
    }

    private static void requireWithin(int argument, int least, int most) {
        if (argument < least || argument > most) {
            throw new IllegalArgumentException("an argument is out of range");
        }
    }

    private static void requireIdentifier(int identifier) {
        requireWithin(identifier, 0, IDENTIFIERS - 1);
    }

    private static void requireAddress(int address) {
        requireWithin(address, 0, ADDRESSES - 1);
    }

    private static void requirePrefix(int value, int length) {
        requireIdentifier(value);
        requireWithin(length, 0, BITS);
        if (firstBits(value, length) != value) {
            throw new IllegalArgumentException("the value has bits behind the length");
        }
    }

    private Mapping requireMapping(int mapping) {
        requireIndex(mapping, registry.count);
        return registry.mappings[mapping];
    }

    private static void requireRegistered(Mapping mapping) {
        if (mapping.isWithdrawn) {
            throw new IllegalStateException("the mapping is withdrawn");
        }
    }

    private static int requireLocator(Mapping mapping, int address) {
        requireRegistered(mapping);
        int place = mapping.locators.placeOf(address);
        if (place == NONE) {
            throw new IllegalStateException("the mapping has no locator with the address");
        }
        return place;
    }

    private Router requireRouter(int router) {
        requireIndex(router, ROUTERS);
        return routers[router];
    }

    private Entry requireEntry(int router, int entry) {
        Router asked = requireRouter(router);
        requireIndex(entry, asked.count);
        return asked.entries[entry];
    }

    private static final class Prefix {
        int value = 0;
        int length = 0;

        void set(int newValue, int newLength) {
            value = newValue;
            length = newLength;
        }

        boolean is(int otherValue, int otherLength) {
            return value == otherValue && length == otherLength;
        }

        /** Bits of the other value behind its length do not count. */
        boolean meets(int otherValue, int otherLength) {
            int common = Math.min(length, otherLength);
            return (value ^ otherValue) >>> (BITS - common) == 0;
        }

        boolean covers(int identifier) {
            return meets(identifier, BITS);
        }
    }

    private static final class Locators {
        final int[] addresses = new int[LOCATORS];
        final int[] priorities = new int[LOCATORS];
        final int[] weights = new int[LOCATORS];
        int count = 0;

        int placeOf(int address) {
            for (int i = 0; i < count; i++) {
                if (addresses[i] == address) {
                    return i;
                }
            }
            return NONE;
        }

        /** Only where the count is less than LOCATORS. */
        void add(int address, int priority, int weight) {
            addresses[count] = address;
            priorities[count] = priority;
            weights[count] = weight;
            count++;
        }

        void removeAt(int place) {
            count--;
            for (int i = place; i < count; i++) {
                addresses[i] = addresses[i + 1];
                priorities[i] = priorities[i + 1];
                weights[i] = weights[i + 1];
            }
        }

        void clear() {
            count = 0;
        }

        void copy(Locators other) {
            clear();
            for (int i = 0; i < other.count; i++) {
                add(other.addresses[i], other.priorities[i], other.weights[i]);
            }
        }
    }

    private static final class Mapping {
        final Prefix prefix = new Prefix();
        final Locators locators = new Locators();
        int version = 1;
        boolean isWithdrawn = false;
    }

    private static final class Registry {
        final Mapping[] mappings = new Mapping[MAPPINGS];
        int count = 0;

        Registry() {
            for (int i = 0; i < MAPPINGS; i++) {
                mappings[i] = new Mapping();
            }
        }

        /** Only where the count is less than MAPPINGS. */
        int add(int value, int length) {
            int mapping = count;
            mappings[mapping].prefix.set(value, length);
            count++;
            return mapping;
        }

        boolean has(int value, int length) {
            for (int i = 0; i < count; i++) {
                if (!mappings[i].isWithdrawn && mappings[i].prefix.is(value, length)) {
                    return true;
                }
            }
            return false;
        }

        int countRegistered() {
            int registered = 0;
            for (int i = 0; i < count; i++) {
                if (!mappings[i].isWithdrawn) {
                    registered++;
                }
            }
            return registered;
        }

        int find(int identifier) {
            int best = NONE;
            int bestLength = NONE;
            for (int i = 0; i < count; i++) {
                Mapping mapping = mappings[i];
                if (!mapping.isWithdrawn && mapping.prefix.length > bestLength
                        && mapping.prefix.covers(identifier)) {
                    best = i;
                    bestLength = mapping.prefix.length;
                }
            }
            return best;
        }

        /** The length of the answer's prefix; the mapping is the identifier's, or NONE. */
        int narrow(int identifier, int mapping) {
            int ownLength = mapping == NONE ? NONE : mappings[mapping].prefix.length;
            for (int length = Math.max(ownLength, 0); length < BITS; length++) {
                if (!hidesLonger(identifier, length, ownLength)) {
                    return length;
                }
            }
            // A mapping that the identifier alone would hide would be the identifier's own.
            return BITS;
        }

        /** The length is not less than ownLength, so that what is longer and met is within the own prefix. */
        private boolean hidesLonger(int identifier, int length, int ownLength) {
            for (int i = 0; i < count; i++) {
                Mapping other = mappings[i];
                if (!other.isWithdrawn && other.prefix.length > ownLength
                        && other.prefix.meets(identifier, length)) {
                    return true;
                }
            }
            return false;
        }
    }

    private static final class Servers {
        final boolean[] isDown = new boolean[SERVERS];
        final int[] answered = new int[SERVERS];
        final Prefix[] delegated = new Prefix[DELEGATIONS];
        final int[] delegatedTo = new int[DELEGATIONS];
        int count = 0;

        Servers() {
            for (int i = 0; i < DELEGATIONS; i++) {
                delegated[i] = new Prefix();
            }
        }

        int placeOf(int value, int length) {
            for (int i = 0; i < count; i++) {
                if (delegated[i].is(value, length)) {
                    return i;
                }
            }
            return NONE;
        }

        /** Only where the count is less than DELEGATIONS. */
        void add(int value, int length, int server) {
            delegated[count].set(value, length);
            delegatedTo[count] = server;
            count++;
        }

        int find(int identifier) {
            int best = 0;
            int bestLength = NONE;
            for (int i = 0; i < count; i++) {
                if (delegated[i].length > bestLength && delegated[i].covers(identifier)) {
                    best = delegatedTo[i];
                    bestLength = delegated[i].length;
                }
            }
            return best;
        }
    }

    private static final class Entry {
        final Prefix prefix = new Prefix();
        final Locators locators = new Locators();
        final int[] packets = new int[LOCATORS];
        int mapping = NONE;
        int version = 0;
        int end = 0;
        boolean isSolicited = false;

        void keepNegative(int newEnd) {
            mapping = NONE;
            locators.clear();
            end = newEnd;
            isSolicited = false;
        }

        void keepPositive(int number, Mapping answer, int newEnd) {
            mapping = number;
            version = answer.version;
            locators.copy(answer.locators);
            for (int i = 0; i < LOCATORS; i++) {
                packets[i] = 0;
            }
            end = newEnd;
            isSolicited = false;
        }

        boolean hasEnded(int now) {
            return now >= end;
        }

        int sendPacket(boolean[] isUnreachable) {
            if (mapping == NONE) {
                return NONE;
            }
            int place = choose(isUnreachable, bestPriority(isUnreachable));
            if (place == NONE) {
                return UNREACHABLE;
            }
            packets[place]++;
            return locators.addresses[place];
        }

        private int bestPriority(boolean[] isUnreachable) {
            int best = PRIORITIES;
            for (int i = 0; i < locators.count; i++) {
                if (!isUnreachable[locators.addresses[i]]) {
                    best = Math.min(best, locators.priorities[i]);
                }
            }
            return best;
        }

        private int choose(boolean[] isUnreachable, int priority) {
            int sent = 0;
            int weights = 0;
            for (int i = 0; i < locators.count; i++) {
                if (isLookedAt(i, isUnreachable, priority)) {
                    sent += packets[i];
                    weights += locators.weights[i];
                }
            }
            int best = NONE;
            int bestLack = 0;
            for (int i = 0; i < locators.count; i++) {
                int lack = locators.weights[i] * (sent + 1) - weights * packets[i];
                if (isLookedAt(i, isUnreachable, priority) && (best == NONE || lack > bestLack)) {
                    best = i;
                    bestLack = lack;
                }
            }
            return best;
        }

        private boolean isLookedAt(int place, boolean[] isUnreachable, int priority) {
            return locators.priorities[place] == priority && !isUnreachable[locators.addresses[place]];
        }
    }

    private static final class Router {
        /** The least recently used one first; those from the count on wait to be used again. */
        final Entry[] entries = new Entry[ENTRIES];
        final boolean[] isUnreachable = new boolean[ADDRESSES];
        int count = 0;

        Router() {
            for (int i = 0; i < ENTRIES; i++) {
                entries[i] = new Entry();
            }
        }

        /** No two entries' prefixes meet, so that the first one that covers it is the only one. */
        int find(int identifier, int now) {
            for (int i = 0; i < count; i++) {
                Entry entry = entries[i];
                if (!entry.isSolicited && !entry.hasEnded(now) && entry.prefix.covers(identifier)) {
                    return i;
                }
            }
            return NONE;
        }

        int solicitMeeting(Prefix changed) {
            int newly = 0;
            for (int i = 0; i < count; i++) {
                Entry entry = entries[i];
                if (!entry.isSolicited && entry.prefix.meets(changed.value, changed.length)) {
                    entry.isSolicited = true;
                    newly++;
                }
            }
            return newly;
        }

        /** Takes out what stands in a new entry's way, and returns that entry's place. */
        int makeRoom(int value, int length) {
            for (int i = count - 1; i >= 0; i--) {
                if (entries[i].prefix.meets(value, length)) {
                    takeOut(i);
                }
            }
            if (count >= ENTRIES) {
                takeOut(0);
            }
            count++;
            return count - 1;
        }

        private void takeOut(int place) {
            moveToEnd(place);
            count--;
        }

        Entry moveToEnd(int place) {
            Entry moved = entries[place];
            for (int i = place; i < count - 1; i++) {
                entries[i] = entries[i + 1];
                entries[i + 1] = moved;
            }
            return moved;
        }

        int countUnreachable() {
            int unreachable = 0;
            for (int i = 0; i < ADDRESSES; i++) {
                if (isUnreachable[i]) {
                    unreachable++;
                }
            }
            return unreachable;
        }
    }
}
