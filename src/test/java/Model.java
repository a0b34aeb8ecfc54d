import java.util.ArrayList;
import java.util.List;
import java.util.Map;
import java.util.TreeMap;
import java.util.TreeSet;

/** The document said once more, as naively as can be: everything is worked out anew at each call. */
final class Model {
    private static final class Version {
        int unit;
        int base;
        int format;
        int content;
        boolean isThere = true;
    }

    private static final class Thing {
        int wanted;
        final List<Version> versions = new ArrayList<>();
    }

    private static final class Unit {
        boolean isDifference;
        int value;
        int should;
        final TreeMap<Integer, Integer> copies = new TreeMap<>();
    }

    private final List<Integer> risks = new ArrayList<>();
    private final Map<Integer, Integer> losses = new TreeMap<>();
    private final List<Thing> things = new ArrayList<>();
    private final TreeMap<Integer, Unit> units = new TreeMap<>();
    private final TreeSet<Integer> open = new TreeSet<>(List.of(0, 1, 2, 3));
    private int made = 0;
    private int lastUnit = -1;
    private int lastSite = -1;

    private static void argument(boolean isGood) {
        if (!isGood) {
            throw new IllegalArgumentException();
        }
    }

    private static void index(boolean isGood) {
        if (!isGood) {
            throw new IndexOutOfBoundsException();
        }
    }

    private static void state(boolean isGood) {
        if (!isGood) {
            throw new IllegalStateException();
        }
    }

    private boolean isFormat(int f) {
        return f >= 0 && f < risks.size();
    }

    private Thing thing(int o) {
        index(o >= 0 && o < things.size());
        return things.get(o);
    }

    private Version version(Thing thing, int v) {
        index(v >= 0 && v < thing.versions.size() && thing.versions.get(v).isThere);
        return thing.versions.get(v);
    }

    private int latest(Thing thing) {
        int v = thing.versions.size() - 1;
        while (!thing.versions.get(v).isThere) {
            v--;
        }
        return v;
    }

    int addFormat(int risk) {
        argument(risk >= 0 && risk <= 100);
        state(risks.size() < 8);
        risks.add(risk);
        return risks.size() - 1;
    }

    int setRisk(int f, int risk) {
        argument(risk >= 0 && risk <= 100);
        index(isFormat(f));
        return risks.set(f, risk);
    }

    int addConversion(int from, int to, int loss) {
        argument(loss >= 0 && loss <= 100 && from != to);
        index(isFormat(from) && isFormat(to));
        losses.put(10 * from + to, loss);
        return bestWay(from, to) / 100;
    }

    int bestWay(int from, int to) {
        index(isFormat(from) && isFormat(to));
        int best = tryWays(from, to, new TreeSet<>(), 0);
        return best == Integer.MAX_VALUE ? -1 : best;
    }

    private int tryWays(int at, int to, TreeSet<Integer> been, int sum) {
        if (at == to) {
            return sum;
        }
        int best = Integer.MAX_VALUE;
        been.add(at);
        for (int next = 0; next < risks.size(); next++) {
            Integer loss = losses.get(10 * at + next);
            if (loss != null && !been.contains(next)) {
                best = Math.min(best, tryWays(next, to, been, sum + 100 * loss + 1));
            }
        }
        been.remove(at);
        return best;
    }

    int deposit(int f, int content, int copies) {
        argument(content >= 0 && content <= 999999 && copies >= 1 && copies <= 3);
        index(isFormat(f));
        state(things.size() < 10);
        Thing thing = new Thing();
        thing.wanted = copies;
        things.add(thing);
        addVersion(thing, f, content, -1);
        return things.size() - 1;
    }

    int revise(int o, int content, boolean isDifference) {
        argument(content >= 0 && content <= 999999);
        Thing thing = thing(o);
        state(thing.versions.size() < 10);
        int latest = latest(thing);
        return addVersion(thing, thing.versions.get(latest).format, content, isDifference ? latest : -1);
    }

    int convert(int o, int f) {
        Thing thing = thing(o);
        index(isFormat(f));
        int latest = latest(thing);
        int from = thing.versions.get(latest).format;
        state(thing.versions.size() < 10 && from != f && bestWay(from, f) >= 0);
        int r = read(o, latest);
        int content = 1000 * (((r % 1000) + 1000) % 1000) + bestWay(from, f) / 100 % 1000;
        return addVersion(thing, f, content, -1);
    }

    private int addVersion(Thing thing, int format, int content, int base) {
        Version version = new Version();
        version.format = format;
        version.content = content;
        version.base = base;
        int value = base < 0 ? content : content - thing.versions.get(base).content;
        version.unit = obtain(base >= 0, value, thing.wanted);
        thing.versions.add(version);
        return thing.versions.size() - 1;
    }

    private int obtain(boolean isDifference, int value, int wanted) {
        for (Map.Entry<Integer, Unit> entry : units.entrySet()) {
            Unit unit = entry.getValue();
            if (unit.isDifference == isDifference && unit.value == value) {
                unit.should = Math.max(unit.should, wanted);
                place(unit, good(unit));
                return entry.getKey();
            }
        }
        Unit unit = new Unit();
        unit.isDifference = isDifference;
        unit.value = value;
        unit.should = wanted;
        units.put(made, unit);
        place(unit, value);
        return made++;
    }

    private int place(Unit unit, Integer value) {
        int placed = 0;
        while (value != null && unit.copies.size() < unit.should) {
            TreeSet<Integer> free = new TreeSet<>(open);
            free.removeAll(unit.copies.keySet());
            if (free.isEmpty()) {
                break;
            }
            int best = free.first();
            for (int site : free) {
                best = load(site) < load(best) ? site : best;
            }
            unit.copies.put(best, value);
            placed++;
        }
        return placed;
    }

    private int load(int site) {
        int load = 0;
        for (Unit unit : units.values()) {
            load += unit.copies.containsKey(site) ? 1 : 0;
        }
        return load;
    }

    private static int digest(int value) {
        int rest = value % 97;
        return rest < 0 ? rest + 97 : rest;
    }

    private static Integer good(Unit unit) {
        Integer best = null;
        int most = 0;
        for (int value : unit.copies.values()) {
            int votes = 0;
            for (int other : unit.copies.values()) {
                votes += other == value ? 1 : 0;
            }
            if (digest(value) == digest(unit.value) && votes > most) {
                most = votes;
                best = value;
            }
        }
        return best;
    }

    int purge(int o, int v) {
        Thing thing = thing(o);
        Version purged = version(thing, v);
        state(Integer.bitCount(versions(o)) > 1);
        purged.isThere = false;
        TreeSet<Integer> needed = new TreeSet<>();
        for (Thing one : things) {
            for (Version there : one.versions) {
                if (there.isThere) {
                    needed.add(there.unit);
                    for (int base = there.base; base >= 0; base = one.versions.get(base).base) {
                        needed.add(one.versions.get(base).unit);
                    }
                }
            }
        }
        int before = units.size();
        units.keySet().retainAll(needed);
        return before - units.size();
    }

    int versions(int o) {
        int set = 0;
        Thing thing = thing(o);
        for (int v = 0; v < thing.versions.size(); v++) {
            set |= thing.versions.get(v).isThere ? 1 << v : 0;
        }
        return set;
    }

    int unitOf(int o, int v) {
        return version(thing(o), v).unit;
    }

    int read(int o, int v) {
        Thing thing = thing(o);
        version(thing, v);
        int sum = 0;
        for (int at = v; at >= 0; at = thing.versions.get(at).base) {
            Integer good = good(units.get(thing.versions.get(at).unit));
            state(good != null);
            sum += good;
        }
        return sum;
    }

    int atRisk(int risk) {
        argument(risk >= 0 && risk <= 100);
        int set = 0;
        for (int o = 0; o < things.size(); o++) {
            Thing thing = things.get(o);
            set |= risks.get(thing.versions.get(latest(thing)).format) >= risk ? 1 << o : 0;
        }
        return set;
    }

    int units() {
        return units.size();
    }

    int sites(int u) {
        index(units.containsKey(u));
        int set = 0;
        for (int site : units.get(u).copies.keySet()) {
            set |= 1 << site;
        }
        return set;
    }

    int sound(int u) {
        index(units.containsKey(u));
        int count = 0;
        for (int value : units.get(u).copies.values()) {
            count += digest(value) == digest(units.get(u).value) ? 1 : 0;
        }
        return count;
    }

    boolean damage(int site, int u, int change) {
        argument(site >= 0 && site <= 3 && change >= -1000 && change <= 1000 && change != 0);
        index(units.containsKey(u) && units.get(u).copies.containsKey(site));
        Unit unit = units.get(u);
        unit.copies.merge(site, change, Integer::sum);
        return digest(unit.copies.get(site)) == digest(unit.value);
    }

    int toggleSite(int site) {
        argument(site >= 0 && site <= 3);
        if (open.add(site)) {
            return 0;
        }
        open.remove(site);
        int gone = 0;
        for (Unit unit : units.values()) {
            gone += unit.copies.remove(site) != null ? 1 : 0;
        }
        return gone;
    }

    int audit(int steps) {
        argument(steps >= 1 && steps <= 100);
        List<int[]> turn = new ArrayList<>();
        for (Map.Entry<Integer, Unit> entry : units.entrySet()) {
            for (int site : entry.getValue().copies.keySet()) {
                turn.add(new int[] {entry.getKey(), site});
            }
        }
        state(!turn.isEmpty());
        int next = 0;
        while (next < turn.size() && !isBehindLast(turn.get(next))) {
            next++;
        }
        int repaired = 0;
        for (int step = 0; step < steps; step++) {
            int[] copy = turn.get((next + step) % turn.size());
            lastUnit = copy[0];
            lastSite = copy[1];
            Unit unit = units.get(lastUnit);
            Integer good = good(unit);
            if (good != null && !good.equals(unit.copies.put(lastSite, good))) {
                repaired++;
            }
        }
        return repaired;
    }

    private boolean isBehindLast(int[] copy) {
        return copy[0] > lastUnit || copy[0] == lastUnit && copy[1] > lastSite;
    }

    int replicate() {
        int placed = 0;
        for (Unit unit : units.values()) {
            placed += place(unit, good(unit));
        }
        return placed;
    }

    int lacking() {
        int sum = 0;
        for (Unit unit : units.values()) {
            sum += Math.max(0, unit.should - unit.copies.size());
        }
        return sum;
    }
}
