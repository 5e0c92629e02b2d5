import java.util.ArrayList;
import java.util.HashSet;
import java.util.LinkedHashMap;
import java.util.List;
import java.util.Map;
import java.util.Set;

/** The document told once more in another form: prefixes are texts of bits, and nothing is kept small. */
final class Model {
    private record Locator(int address, int priority, int weight) { }

    private static final class Mapping {
        final String prefix;
        final List<Locator> locators = new ArrayList<>();
        int version = 1;
        boolean withdrawn = false;

        Mapping(String prefix) {
            this.prefix = prefix;
        }
    }

    private static final class Entry {
        final String prefix;
        final int mapping;
        final int version;
        final List<Locator> locators;
        final int end;
        final Map<Integer, Integer> packets = new LinkedHashMap<>();
        boolean solicited = false;

        Entry(String prefix, int mapping, int version, List<Locator> locators, int end) {
            this.prefix = prefix;
            this.mapping = mapping;
            this.version = version;
            this.locators = locators;
            this.end = end;
        }

        int packetsTo(int address) {
            return packets.getOrDefault(address, 0);
        }
    }

    private final List<Mapping> mappings = new ArrayList<>();
    private final Map<String, Integer> delegated = new LinkedHashMap<>();
    private final boolean[] up = {true, true, true, true};
    private final int[] answered = new int[4];
    private final List<List<Entry>> caches = List.of(new ArrayList<>(), new ArrayList<>(), new ArrayList<>());
    private final List<Set<Integer>> unreachable = List.of(new HashSet<>(), new HashSet<>(), new HashSet<>());
    private int time = 0;
    private int positive = 100;
    private int negative = 20;
    private int solicitations = 0;

    private static String bits(int value, int length) {
        return String.format("%16s", Integer.toBinaryString(value)).replace(' ', '0').substring(0, length);
    }

    private static int valueOf(String prefix) {
        int value = 0;
        for (int i = 0; i < 16; i++) {
            value = value * 2 + (i < prefix.length() && prefix.charAt(i) == '1' ? 1 : 0);
        }
        return value;
    }

    private static boolean meet(String a, String b) {
        return a.startsWith(b) || b.startsWith(a);
    }

    private static void index(boolean fits) {
        if (!fits) {
            throw new IndexOutOfBoundsException();
        }
    }

    private static void argument(boolean fits) {
        if (!fits) {
            throw new IllegalArgumentException();
        }
    }

    private static void state(boolean fits) {
        if (!fits) {
            throw new IllegalStateException();
        }
    }

    private static boolean within(int x, int least, int most) {
        return least <= x && x <= most;
    }

    private static String prefix(int value, int length) {
        argument(within(value, 0, 65535) && within(length, 0, 16));
        String prefix = bits(value, length);
        argument(valueOf(prefix) == value);
        return prefix;
    }

    private static String identifier(int identifier) {
        argument(within(identifier, 0, 65535));
        return bits(identifier, 16);
    }

    private void solicit(String prefix) {
        for (List<Entry> cache : caches) {
            for (Entry entry : cache) {
                if (meet(entry.prefix, prefix) && !entry.solicited) {
                    entry.solicited = true;
                    solicitations++;
                }
            }
        }
    }

    int register(int value, int length) {
        String prefix = prefix(value, length);
        state(mappings.size() < 24);
        for (Mapping mapping : mappings) {
            state(mapping.withdrawn || !mapping.prefix.equals(prefix));
        }
        mappings.add(new Mapping(prefix));
        solicit(prefix);
        return mappings.size() - 1;
    }

    private Mapping mapping(int number) {
        index(within(number, 0, mappings.size() - 1));
        return mappings.get(number);
    }

    int withdraw(int number) {
        Mapping mapping = mapping(number);
        state(!mapping.withdrawn);
        mapping.withdrawn = true;
        solicit(mapping.prefix);
        return (int) mappings.stream().filter(m -> !m.withdrawn).count();
    }

    private static int place(List<Locator> locators, int address) {
        for (int i = 0; i < locators.size(); i++) {
            if (locators.get(i).address() == address) {
                return i;
            }
        }
        return -1;
    }

    private int change(Mapping mapping) {
        solicit(mapping.prefix);
        return ++mapping.version;
    }

    int addLocator(int number, int address, int priority, int weight) {
        Mapping mapping = mapping(number);
        argument(within(address, 0, 31) && within(priority, 0, 3) && within(weight, 1, 10));
        state(!mapping.withdrawn && mapping.locators.size() < 4 && place(mapping.locators, address) < 0);
        mapping.locators.add(new Locator(address, priority, weight));
        return change(mapping);
    }

    int move(int number, int address, int other) {
        Mapping mapping = mapping(number);
        argument(within(address, 0, 31) && within(other, 0, 31));
        int place = place(mapping.locators, address);
        state(!mapping.withdrawn && place >= 0 && place(mapping.locators, other) < 0);
        Locator moved = mapping.locators.get(place);
        mapping.locators.set(place, new Locator(other, moved.priority(), moved.weight()));
        return change(mapping);
    }

    int removeLocator(int number, int address) {
        Mapping mapping = mapping(number);
        argument(within(address, 0, 31));
        int place = place(mapping.locators, address);
        state(!mapping.withdrawn && place >= 0);
        mapping.locators.remove(place);
        return change(mapping);
    }

    private int find(String identifier) {
        int found = -1;
        for (int i = 0; i < mappings.size(); i++) {
            Mapping mapping = mappings.get(i);
            if (!mapping.withdrawn && identifier.startsWith(mapping.prefix)
                    && (found < 0 || mapping.prefix.length() > mappings.get(found).prefix.length())) {
                found = i;
            }
        }
        return found;
    }

    private String answerPrefix(String identifier) {
        int own = find(identifier);
        String above = own < 0 ? "" : mappings.get(own).prefix;
        String answer = identifier;
        for (int length = 16; length >= above.length(); length--) {
            String tried = identifier.substring(0, length);
            boolean clear = true;
            for (int i = 0; i < mappings.size(); i++) {
                Mapping mapping = mappings.get(i);
                clear &= i == own || mapping.withdrawn || !mapping.prefix.startsWith(above)
                        || !meet(mapping.prefix, tried);
            }
            if (clear) {
                answer = tried;
            }
        }
        return answer;
    }

    int mappingOf(int identifier) {
        return find(identifier(identifier));
    }

    int answerLength(int identifier) {
        String bits = identifier(identifier);
        return answerPrefix(bits).length() + (find(bits) < 0 ? 17 : 0);
    }

    int version(int number) {
        Mapping mapping = mapping(number);
        return mapping.withdrawn ? -1 : mapping.version;
    }

    int delegate(int value, int length, int server) {
        index(within(server, 0, 3));
        String prefix = prefix(value, length);
        state(delegated.containsKey(prefix) || delegated.size() < 12);
        delegated.put(prefix, server);
        return delegated.size();
    }

    boolean setUp(int server, boolean is) {
        index(within(server, 0, 3));
        boolean was = up[server];
        up[server] = is;
        return was;
    }

    int serverOf(int identifier) {
        String bits = identifier(identifier);
        for (int length = 16; length >= 0; length--) {
            Integer server = delegated.get(bits.substring(0, length));
            if (server != null) {
                return server;
            }
        }
        return 0;
    }

    int answers(int server) {
        index(within(server, 0, 3));
        return answered[server];
    }

    private Entry ask(List<Entry> cache, String identifier) {
        int own = find(identifier);
        String prefix = answerPrefix(identifier);
        Entry got = own < 0
                ? new Entry(prefix, -1, 0, List.of(), time + negative)
                : new Entry(prefix, own, mappings.get(own).version, List.copyOf(mappings.get(own).locators),
                        time + positive);
        cache.removeIf(entry -> meet(entry.prefix, prefix));
        if (cache.size() == 8) {
            cache.remove(0);
        }
        return got;
    }

    int send(int router, int identifier) {
        index(within(router, 0, 2));
        String bits = identifier(identifier);
        List<Entry> cache = caches.get(router);
        Entry used = null;
        for (Entry entry : cache) {
            if (!entry.solicited && time < entry.end && bits.startsWith(entry.prefix)
                    && (used == null || entry.prefix.length() > used.prefix.length())) {
                used = entry;
            }
        }
        if (used == null) {
            int server = serverOf(identifier);
            if (!up[server]) {
                return -2;
            }
            answered[server]++;
            used = ask(cache, bits);
        }
        cache.remove(used);
        cache.add(used);
        return used.mapping < 0 ? -1 : forward(used, unreachable.get(router));
    }

    private static int forward(Entry used, Set<Integer> unreachable) {
        List<Locator> looked = new ArrayList<>(used.locators);
        looked.removeIf(l -> unreachable.contains(l.address()));
        int best = looked.stream().mapToInt(Locator::priority).min().orElse(0);
        looked.removeIf(l -> l.priority() != best);
        if (looked.isEmpty()) {
            return -3;
        }
        int sent = looked.stream().mapToInt(l -> used.packetsTo(l.address())).sum();
        int weights = looked.stream().mapToInt(Locator::weight).sum();
        Locator chosen = null;
        int most = 0;
        for (Locator l : looked) {
            int share = l.weight() * (sent + 1) - weights * used.packetsTo(l.address());
            if (chosen == null || share > most) {
                chosen = l;
                most = share;
            }
        }
        used.packets.merge(chosen.address(), 1, Integer::sum);
        return chosen.address();
    }

    int probe(int router, int address, boolean isReachable) {
        index(within(router, 0, 2));
        argument(within(address, 0, 31));
        if (isReachable) {
            unreachable.get(router).remove(address);
        } else {
            unreachable.get(router).add(address);
        }
        return unreachable.get(router).size();
    }

    int setLifetimes(int newPositive, int newNegative) {
        argument(within(newPositive, 1, 1000) && within(newNegative, 1, 1000));
        int before = positive;
        positive = newPositive;
        negative = newNegative;
        return before;
    }

    int pass(int seconds) {
        argument(within(seconds, 1, 1000));
        time += seconds;
        return time;
    }

    int entries(int router) {
        index(within(router, 0, 2));
        return caches.get(router).size();
    }

    private Entry entry(int router, int entry) {
        index(within(router, 0, 2) && within(entry, 0, caches.get(router).size() - 1));
        return caches.get(router).get(entry);
    }

    int prefixOf(int router, int number) {
        String prefix = entry(router, number).prefix;
        return 32 * valueOf(prefix) + prefix.length();
    }

    int mappingAt(int router, int number) {
        Entry entry = entry(router, number);
        return entry.mapping < 0 ? -1 : 1000 * entry.version + entry.mapping;
    }

    int lasts(int router, int number) {
        Entry entry = entry(router, number);
        return entry.solicited ? -1 : Math.max(0, entry.end - time);
    }

    int packetsTo(int router, int number, int address) {
        Entry entry = entry(router, number);
        argument(within(address, 0, 31));
        return entry.packetsTo(address);
    }

    int solicitations() {
        return solicitations;
    }
}
