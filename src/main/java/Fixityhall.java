import java.util.ArrayList;

/** A keeper of digital objects. */
public final class Fixityhall {
    private static final int SITES = 4;
    private static final int NO_SITE = -1;
    private static final int MAX_FORMATS = 8;
    private static final int MAX_OBJECTS = 10;
    private static final int MAX_VERSIONS = 10;
    private static final int MAX_CONTENT = 999999;
    private static final int MAX_WANTED = 3;
    private static final int MAX_RISK = 100;
    private static final int MAX_LOSS = 100;
    private static final int MAX_CHANGE = 1000;
    private static final int MAX_STEPS = 100;
    private static final int CONVERTED_PART = 1000;

    private final Formats formats;
    private final Store store;
    private final ArrayList<DigitalObject> objects;

    public Fixityhall() {
        formats = new Formats();
        store = new Store();
        objects = new ArrayList<DigitalObject>();
    }

    // ---- formats

    public int addFormat(int risk) throws IllegalArgumentException, IllegalStateException {
        requireRisk(risk);
        if (formats.isFull()) {
            throw new IllegalStateException("no room for another format");
        }
        return formats.add(risk);
    }

    public int setRisk(int format, int risk) throws IllegalArgumentException, IndexOutOfBoundsException {
        requireRisk(risk);
        requireFormat(format);
        return formats.exchangeRisk(format, risk);
    }

    public int addConversion(int from, int to, int loss)
            throws IllegalArgumentException, IndexOutOfBoundsException {
        if (!isWithin(loss, 0, MAX_LOSS)) {
            throw new IllegalArgumentException("loss out of range");
        }
        if (from == to) {
            throw new IllegalArgumentException("a conversion leads to another format");
        }
        requireFormat(from);
        requireFormat(to);
        formats.setConversion(from, to, loss);
        return Formats.lossOf(formats.bestCost(from, to));
    }

    public int bestWay(int from, int to) throws IndexOutOfBoundsException {
        requireFormat(from);
        requireFormat(to);
        return formats.bestCost(from, to);
    }

    // ---- objects and versions

    public int deposit(int format, int content, int copies)
            throws IllegalArgumentException, IndexOutOfBoundsException, IllegalStateException {
        requireContent(content);
        if (!isWithin(copies, 1, MAX_WANTED)) {
            throw new IllegalArgumentException("number of copies out of range");
        }
        requireFormat(format);
        if (objects.size() >= MAX_OBJECTS) {
            throw new IllegalStateException("no room for another object");
        }
        objects.add(new DigitalObject(copies, makeVersion(null, format, content, copies)));
        return objects.size() - 1;
    }

    public int revise(int object, int content, boolean isDifference)
            throws IllegalArgumentException, IndexOutOfBoundsException, IllegalStateException {
        requireContent(content);
        DigitalObject revised = objectAt(object);
        requireRoomForVersion(revised);
        Version latest = revised.latest();
        Version base = isDifference ? latest : null;
        return revised.add(makeVersion(base, latest.format, content, revised.wanted));
    }

    public int convert(int object, int format) throws IndexOutOfBoundsException, IllegalStateException {
        DigitalObject converted = objectAt(object);
        requireFormat(format);
        requireRoomForVersion(converted);
        Version latest = converted.latest();
        if (latest.format == format) {
            throw new IllegalStateException("the latest version has this format");
        }
        int cost = formats.bestCost(latest.format, format);
        if (cost == Formats.NO_WAY) {
            throw new IllegalStateException("no way to this format");
        }
        requireReadable(latest);
        int content = convertedContent(latest.sumOfGoodValues(), Formats.lossOf(cost));
        return converted.add(makeVersion(null, format, content, converted.wanted));
    }

    public int purge(int object, int version) throws IndexOutOfBoundsException, IllegalStateException {
        DigitalObject holder = objectAt(object);
        Version purged = versionAt(holder, version);
        if (holder.countThere() <= 1) {
            throw new IllegalStateException("the only version that is there");
        }
        purged.isThere = false;
        return store.release(purged);
    }

    public int versions(int object) throws IndexOutOfBoundsException {
        return objectAt(object).versionSet();
    }

    public int unitOf(int object, int version) throws IndexOutOfBoundsException {
        return versionAt(objectAt(object), version).unit.number;
    }

    public int read(int object, int version) throws IndexOutOfBoundsException, IllegalStateException {
        Version asked = versionAt(objectAt(object), version);
        requireReadable(asked);
        return asked.sumOfGoodValues();
    }

    public int atRisk(int risk) throws IllegalArgumentException {
        requireRisk(risk);
        int set = 0;
        for (int i = 0; i < objects.size(); i++) {
            if (formats.riskOf(objects.get(i).latest().format) >= risk) {
                set |= 1 << i;
            }
        }
        return set;
    }

    // ---- copies and sites

    public int units() {
        return store.countUnits();
    }

    public int sites(int unit) throws IndexOutOfBoundsException {
        return unitAt(unit).siteSet();
    }

    public int sound(int unit) throws IndexOutOfBoundsException {
        return unitAt(unit).countSound();
    }

    public boolean damage(int site, int unit, int change)
            throws IllegalArgumentException, IndexOutOfBoundsException {
        requireSite(site);
        if (change == 0 || !isWithin(change, -MAX_CHANGE, MAX_CHANGE)) {
            throw new IllegalArgumentException("change out of range");
        }
        Unit damaged = unitAt(unit);
        if (!damaged.hasCopyAt(site)) {
            throw new IndexOutOfBoundsException("no copy at this site");
        }
        damaged.changeAt(site, change);
        return damaged.isSoundAt(site);
    }

    public int toggleSite(int site) throws IllegalArgumentException {
        requireSite(site);
        return store.closeOrOpen(site);
    }

    public int audit(int steps) throws IllegalArgumentException, IllegalStateException {
        if (!isWithin(steps, 1, MAX_STEPS)) {
            throw new IllegalArgumentException("number of steps out of range");
        }
        if (!store.hasCopies()) {
            throw new IllegalStateException("no copies to audit");
        }
        int repaired = 0;
        for (int step = 0; step < steps; step++) {
            if (store.auditNext()) {
                repaired++;
            }
        }
        return repaired;
    }

    public int replicate() {
        return store.placeAllLacking();
    }

    public int lacking() {
        return store.countLacking();
    }

    // ---- what the calls have in common

    private static boolean isWithin(int number, int least, int greatest) {
        return number >= least && number <= greatest;
    }

    private static void requireRisk(int risk) {
        if (!isWithin(risk, 0, MAX_RISK)) {
            throw new IllegalArgumentException("risk out of range");
        }
    }

    private static void requireContent(int content) {
        if (!isWithin(content, 0, MAX_CONTENT)) {
            throw new IllegalArgumentException("content out of range");
        }
    }

    private static void requireSite(int site) {
        if (!isWithin(site, 0, SITES - 1)) {
            throw new IllegalArgumentException("site out of range");
        }
    }

    private void requireFormat(int format) {
        if (!formats.has(format)) {
            throw new IndexOutOfBoundsException("no such format");
        }
    }

    private static void requireRoomForVersion(DigitalObject object) {
        if (object.isFull()) {
            throw new IllegalStateException("no room for another version");
        }
    }

    private static void requireReadable(Version version) {
        if (!version.isReadable()) {
            throw new IllegalStateException("a unit has no good value");
        }
    }

    private DigitalObject objectAt(int number) {
        if (number < 0 || number >= objects.size()) {
            throw new IndexOutOfBoundsException("no such object");
        }
        return objects.get(number);
    }

    private static Version versionAt(DigitalObject object, int number) {
        Version found = object.find(number);
        if (found == null) {
            throw new IndexOutOfBoundsException("no such version");
        }
        return found;
    }

    private Unit unitAt(int number) {
        Unit found = store.find(number);
        if (found == null) {
            throw new IndexOutOfBoundsException("no such unit");
        }
        return found;
    }

    /** Makes a version that is a difference from the base, or whole where the base is null. */
    private Version makeVersion(Version base, int format, int content, int wanted) {
        int value = base == null ? content : content - base.content;
        Unit unit = store.obtain(base != null, value, wanted);
        Version made = new Version(unit, base, format, content);
        made.claimUnits();
        return made;
    }

    private static int convertedContent(int reading, int loss) {
        // Damage that the digest does not show can make the reading negative.
        return CONVERTED_PART * Math.floorMod(reading, CONVERTED_PART) + loss % CONVERTED_PART;
    }

    /** The formats, and the conversions between them. */
    private static final class Formats {
        static final int NO_WAY = -1;
        private static final int COST_OF_LOSS = 100;

        private final int[] risks = new int[MAX_FORMATS];
        // A conversion costs COST_OF_LOSS times its loss, and 1 more: ways are shorter than
        // COST_OF_LOSS, so the least cost is the least loss with the fewest conversions.
        private final int[][] costs = new int[MAX_FORMATS][MAX_FORMATS];
        private final int[] reached = new int[MAX_FORMATS];
        private int count;

        static int lossOf(int cost) {
            return cost / COST_OF_LOSS;
        }

        boolean has(int format) {
            return format >= 0 && format < count && format < MAX_FORMATS;
        }

        boolean isFull() {
            return count >= MAX_FORMATS;
        }

        int add(int risk) {
            int added = count;
            count++;
            exchangeRisk(added, risk);
            return added;
        }

        int riskOf(int format) {
            return has(format) ? risks[format] : 0;
        }

        /** Answers the risk before. */
        int exchangeRisk(int format, int risk) {
            int before = riskOf(format);
            if (has(format)) {
                risks[format] = risk;
            }
            return before;
        }

        void setConversion(int from, int to, int loss) {
            if (has(from) && has(to)) {
                costs[from][to] = COST_OF_LOSS * loss + 1;
            }
        }

        int bestCost(int from, int to) {
            if (!has(from) || !has(to)) {
                return NO_WAY;
            }
            for (int i = 0; i < MAX_FORMATS; i++) {
                reached[i] = NO_WAY;
            }
            reached[from] = 0;
            // A best way comes to no format twice, so it has fewer conversions than there are formats.
            for (int conversions = 1; conversions < count; conversions++) {
                lengthenWays();
            }
            return reached[to];
        }

        private void lengthenWays() {
            for (int from = 0; from < MAX_FORMATS; from++) {
                for (int to = 0; to < MAX_FORMATS; to++) {
                    if (reached[from] != NO_WAY && costs[from][to] != 0) {
                        reach(to, reached[from] + costs[from][to]);
                    }
                }
            }
        }

        private void reach(int format, int cost) {
            if (has(format) && (reached[format] == NO_WAY || cost < reached[format])) {
                reached[format] = cost;
            }
        }
    }

    /** An object that was deposited, with all versions that it has had. */
    private static final class DigitalObject {
        final int wanted;
        private final Version first;
        private final ArrayList<Version> versions = new ArrayList<Version>();

        DigitalObject(int wanted, Version first) {
            this.wanted = wanted;
            this.first = first;
            versions.add(first);
        }

        boolean isFull() {
            return versions.size() >= MAX_VERSIONS;
        }

        int add(Version version) {
            versions.add(version);
            return versions.size() - 1;
        }

        /** The version with the number, or null if it is not there. */
        Version find(int number) {
            if (number < 0 || number >= versions.size()) {
                return null;
            }
            Version found = versions.get(number);
            return found.isThere ? found : null;
        }

        Version latest() {
            Version found = first;
            for (int i = 0; i < versions.size(); i++) {
                Version version = versions.get(i);
                if (version.isThere) {
                    found = version;
                }
            }
            return found;
        }

        int versionSet() {
            int set = 0;
            for (int i = 0; i < versions.size(); i++) {
                if (versions.get(i).isThere) {
                    set |= 1 << i;
                }
            }
            return set;
        }

        int countThere() {
            return Integer.bitCount(versionSet());
        }
    }

    /** A version; a purged one can still be the base of another. */
    private static final class Version {
        final Unit unit;
        private final Version base;
        final int format;
        final int content;
        boolean isThere = true;

        Version(Unit unit, Version base, int format, int content) {
            this.unit = unit;
            this.base = base;
            this.format = format;
            this.content = content;
        }

        void claimUnits() {
            for (Version part = this; part != null; part = part.base) {
                part.unit.needs++;
            }
        }

        boolean isReadable() {
            for (Version part = this; part != null; part = part.base) {
                if (part.unit.goodSite() == NO_SITE) {
                    return false;
                }
            }
            return true;
        }

        int sumOfGoodValues() {
            int sum = 0;
            for (Version part = this; part != null; part = part.base) {
                sum += part.unit.goodValue();
            }
            return sum;
        }
    }

    /** A unit and its copies. */
    private static final class Unit {
        private static final int DIGESTS = 97;

        final int number;
        private final boolean isDifference;
        private final int value;
        private final int digest;
        private final boolean[] isPlaced = new boolean[SITES];
        private final int[] copies = new int[SITES];
        int wanted;
        // How often the unit stands on the ways from the versions that are there over their bases.
        int needs;

        Unit(int number, boolean isDifference, int value) {
            this.number = number;
            this.isDifference = isDifference;
            this.value = value;
            digest = Math.floorMod(value, DIGESTS);
        }

        boolean isNeeded() {
            return needs > 0;
        }

        boolean isAlike(boolean asDifference, int otherValue) {
            return isDifference == asDifference && value == otherValue;
        }

        boolean hasCopyAt(int site) {
            return site >= 0 && site < SITES && isPlaced[site];
        }

        boolean isSoundAt(int site) {
            return hasCopyAt(site) && Math.floorMod(copies[site], DIGESTS) == digest;
        }

        void changeAt(int site, int change) {
            if (hasCopyAt(site)) {
                copies[site] += change;
            }
        }

        void placeAt(int site, int placed) {
            if (site >= 0 && site < SITES) {
                isPlaced[site] = true;
                copies[site] = placed;
            }
        }

        void dropAt(int site) {
            if (site >= 0 && site < SITES) {
                isPlaced[site] = false;
            }
        }

        int siteSet() {
            int set = 0;
            for (int site = 0; site < SITES; site++) {
                if (isPlaced[site]) {
                    set |= 1 << site;
                }
            }
            return set;
        }

        int countLacking() {
            return Math.max(0, wanted - Integer.bitCount(siteSet()));
        }

        int countSound() {
            int count = 0;
            for (int site = 0; site < SITES; site++) {
                if (isSoundAt(site)) {
                    count++;
                }
            }
            return count;
        }

        /** The lowest site that has the good value, or NO_SITE if there is no good value. */
        int goodSite() {
            int good = NO_SITE;
            int most = 0;
            for (int site = 0; site < SITES; site++) {
                if (isSoundAt(site) && countOf(copies[site]) > most) {
                    good = site;
                    most = countOf(copies[site]);
                }
            }
            return good;
        }

        /** What most sound copies have, of several the lowest site's; asked for only if there is one. */
        int goodValue() {
            return heldAt(goodSite());
        }

        /** What the copy at the site has, or 0 if there is none. */
        int heldAt(int site) {
            return hasCopyAt(site) ? copies[site] : 0;
        }

        private int countOf(int held) {
            int count = 0;
            for (int site = 0; site < SITES; site++) {
                if (isPlaced[site] && copies[site] == held) {
                    count++;
                }
            }
            return count;
        }

        /** Answers whether the copy at the site had to be changed. */
        boolean repairAt(int site) {
            int good = goodSite();
            if (!hasCopyAt(good) || !hasCopyAt(site) || copies[site] == copies[good]) {
                return false;
            }
            copies[site] = copies[good];
            return true;
        }
    }

    /** All units, the sites at which their copies are, and the turn of the audits. */
    private static final class Store {
        // A unit stands at its number: removed ones stay, as no number is used again.
        private final ArrayList<Unit> units = new ArrayList<Unit>();
        private final boolean[] isClosed = new boolean[SITES];
        private final int[] loads = new int[SITES];
        // The copies are in turn at SITES * unit + site.
        private int lastAudited = -1;

        /** The unit with the number, or null if it is not there. */
        Unit find(int number) {
            if (number < 0 || number >= units.size()) {
                return null;
            }
            Unit found = units.get(number);
            return found.isNeeded() ? found : null;
        }

        /** The unit that a version comes to have: one that is there, or a new one. */
        Unit obtain(boolean isDifference, int value, int wanted) {
            Unit shared = findAlike(isDifference, value);
            if (shared != null) {
                shared.wanted = Math.max(shared.wanted, wanted);
                placeGoodCopies(shared);
                return shared;
            }
            Unit made = new Unit(units.size(), isDifference, value);
            made.wanted = wanted;
            units.add(made);
            placeCopies(made, value);
            return made;
        }

        private Unit findAlike(boolean isDifference, int value) {
            for (int i = 0; i < units.size(); i++) {
                Unit unit = units.get(i);
                if (unit.isNeeded() && unit.isAlike(isDifference, value)) {
                    return unit;
                }
            }
            return null;
        }

        private int placeGoodCopies(Unit unit) {
            int good = unit.goodSite();
            return good == NO_SITE ? 0 : placeCopies(unit, unit.heldAt(good));
        }

        private int placeCopies(Unit unit, int value) {
            int lacking = unit.countLacking();
            int placed = 0;
            for (int i = 0; i < lacking; i++) {
                int site = freestSite(unit);
                if (site >= 0 && site < SITES) {
                    unit.placeAt(site, value);
                    loads[site]++;
                    placed++;
                }
            }
            return placed;
        }

        /** The open site without a copy of the unit that has the fewest copies, or NO_SITE. */
        private int freestSite(Unit unit) {
            int freest = NO_SITE;
            int fewest = 0;
            for (int site = 0; site < SITES; site++) {
                if (isClosed[site] || unit.hasCopyAt(site)) {
                    continue;
                }
                if (freest == NO_SITE || loads[site] < fewest) {
                    freest = site;
                    fewest = loads[site];
                }
            }
            return freest;
        }

        /** Takes back what the version claimed, and answers how many units are removed by that. */
        int release(Version version) {
            int removed = 0;
            for (Version part = version; part != null; part = part.base) {
                part.unit.needs--;
                if (!part.unit.isNeeded()) {
                    dropAllOf(part.unit);
                    removed++;
                }
            }
            return removed;
        }

        private void dropAllOf(Unit unit) {
            for (int site = 0; site < SITES; site++) {
                dropCopy(unit, site);
            }
        }

        /** Answers how many copies are gone by that. */
        int closeOrOpen(int site) {
            if (site < 0 || site >= SITES) {
                return 0;
            }
            isClosed[site] = !isClosed[site];
            // A site that was closed has no copies, so opening it drops none.
            int dropped = 0;
            for (int i = 0; i < units.size(); i++) {
                if (dropCopy(units.get(i), site)) {
                    dropped++;
                }
            }
            return dropped;
        }

        private boolean dropCopy(Unit unit, int site) {
            if (site < 0 || site >= SITES || !unit.hasCopyAt(site)) {
                return false;
            }
            unit.dropAt(site);
            loads[site]--;
            return true;
        }

        int countUnits() {
            int count = 0;
            for (int i = 0; i < units.size(); i++) {
                if (units.get(i).isNeeded()) {
                    count++;
                }
            }
            return count;
        }

        boolean hasCopies() {
            for (int site = 0; site < SITES; site++) {
                if (loads[site] > 0) {
                    return true;
                }
            }
            return false;
        }

        /** Audits the next copy in turn, and answers whether it was repaired. */
        boolean auditNext() {
            int places = SITES * units.size();
            for (int tried = 0; tried < places; tried++) {
                lastAudited = isWithin(lastAudited, 0, places - 2) ? lastAudited + 1 : 0;
                Unit unit = units.get(lastAudited / SITES);
                int site = lastAudited % SITES;
                if (unit.hasCopyAt(site)) {
                    return unit.repairAt(site);
                }
            }
            return false;
        }

        int placeAllLacking() {
            int placed = 0;
            for (int i = 0; i < units.size(); i++) {
                Unit unit = units.get(i);
                if (unit.isNeeded()) {
                    placed += placeGoodCopies(unit);
                }
            }
            return placed;
        }

        int countLacking() {
            int count = 0;
            for (int i = 0; i < units.size(); i++) {
                Unit unit = units.get(i);
                if (unit.isNeeded()) {
                    count += unit.countLacking();
                }
            }
            return count;
        }
    }
}
