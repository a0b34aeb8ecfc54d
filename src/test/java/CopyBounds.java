/** The edges of copies and sites: promises 14 to 21, and what the terms say of copies, digests and audits. */
final class CopyBounds {
    private static final int LEAST = Integer.MIN_VALUE;
    private static final int GREATEST = Integer.MAX_VALUE;
    private static final int[] NO_UNIT_OF_4 = {-1, 4, 100, LEAST, GREATEST};
    private static final int[] NO_SITE_BELOW = {-1, LEAST};
    private static final int[] NO_SITE_ABOVE = {4, GREATEST};

    private CopyBounds() {
    }

    private static long damage(Fixityhall x, int site, int unit, int change) {
        return x.damage(site, unit, change) ? 1 : 0;
    }

    private static void toggleAll(Fixityhall x) {
        for (int site = 0; site < 4; site++) {
            x.toggleSite(site);
        }
    }

    /** The units 0, 1 and 2 with their copies at the sites 0 1 2, 0 1 3 and 0 2 3. */
    private static Fixityhall nineCopies() {
        Fixityhall x = Keepers.oneFormat();
        x.deposit(0, 1000, 3);
        x.deposit(0, 2000, 3);
        x.deposit(0, 3000, 3);
        return x;
    }

    private static final int[][] TURN_OF_NINE = {
        {0, 0}, {0, 1}, {0, 2}, {1, 0}, {1, 1}, {1, 3}, {2, 0}, {2, 2}, {2, 3}};

    /** Only a copy that is damaged is repaired: so the answer tells whether it was this one's turn. */
    private static void nextIs(String what, Fixityhall x, int unit, int site) {
        x.damage(site, unit, 1);
        Check.answers(what + ": next is unit " + unit + " at site " + site, 1, () -> x.audit(1));
    }

    // ---- promise 14: units

    @Holds(in = "Promise 14", says = "Returns the number of units that there are.")
    static void unitsGoFrom0To100() {
        Check.answers("none", 0, () -> new Fixityhall().units());
        Check.answers("one", 1, () -> Keepers.withCopies(1).units());
        Check.answers("all", 100, () -> Keepers.allUnits().units());
    }

    @Holds(in = "Promise 14", says = "Returns the number of units that there are.")
    static void unitsWithoutCopiesAreCounted() {
        Fixityhall x = Keepers.withCopies(1);
        toggleAll(x);
        Check.answers("one that lost its copy", 1, x::units);
        x.revise(0, 5, false);
        Check.answers("one that never had one", 2, x::units);
    }

    @Holds(in = "Promise 14", says = "Returns the number, removed ones not counted.")
    static void removedUnitsAreNotCounted() {
        Fixityhall x = Keepers.withVersions(2);
        x.purge(0, 0);
        Check.answers("one is left", 1, x::units);
        x.revise(0, 300, false);
        Check.answers("a third one came", 2, x::units);
    }

    // ---- promise 15: sites

    @Holds(in = "Promise 15", says = "Returns the sites that have a copy of a unit.")
    static void sitesGoByCopiesSoundOrNot() {
        Fixityhall x = Keepers.withCopies(2);
        x.damage(0, 0, 1);
        x.damage(1, 0, 2);
        Check.answers("damaged ones are copies", 0b0011, () -> x.sites(0));
        x.toggleSite(0);
        Check.answers("those of a closed site are not", 0b0010, () -> x.sites(0));
    }

    @Holds(in = "Promise 15", says = "`unit`: a unit")
    static void sitesTakesTheFirstAndTheLastUnit() {
        Fixityhall x = Keepers.allUnits();
        Check.answers("the first one", 0b0111, () -> x.sites(0));
        Check.answers("the last one has three", 3, () -> Integer.bitCount(x.sites(99)));
    }

    @Holds(in = "Promise 15", says = "Returns the sites, as a set: bit s for site s.")
    static void sitesSetsBits0To3() {
        Fixityhall x = Keepers.oneFormat();
        for (int i = 0; i < 4; i++) {
            int number = i;
            x.deposit(0, number, 1);
            Check.answers("one site", 1 << number, () -> x.sites(number));
        }
        toggleAll(x);
        Check.answers("none", 0, () -> x.sites(3));
        Check.answers("three", 0b0111, () -> Keepers.withCopies(3).sites(0));
    }

    @Holds(in = "Promise 15", says = "Throws `IndexOutOfBoundsException` if there is no such unit")
    static void sitesRefusesUnitsThatAreNotThere() {
        Twin.refusesEach("unit", Check.INDEX, Keepers::busy, NO_UNIT_OF_4, Fixityhall::sites);
        Twin.refuses("removed", Check.INDEX, CopyBounds::firstUnitRemoved, x -> x.sites(0));
        Check.refuses("a unit 100 of 100", Check.INDEX, () -> Keepers.allUnits().sites(100));
    }

    private static Fixityhall firstUnitRemoved() {
        Fixityhall x = Keepers.withVersions(2);
        x.purge(0, 0);
        return x;
    }

    // ---- promise 16: sound

    @Holds(in = "Promise 16", says = "Returns the number of sound copies of a unit.")
    static void soundLeavesOutDamagedAndLostCopies() {
        Fixityhall x = Keepers.withCopies(3);
        x.damage(1, 0, 1);
        Check.answers("one damaged", 2, () -> x.sound(0));
        x.toggleSite(0);
        Check.answers("one lost", 1, () -> x.sound(0));
    }

    @Holds(in = "Promise 16", says = "`unit`: a unit")
    static void soundTakesTheFirstAndTheLastUnit() {
        Fixityhall x = Keepers.allUnits();
        x.damage(0, 0, 1);
        Check.answers("the first one", 2, () -> x.sound(0));
        Check.answers("the last one", 3, () -> x.sound(99));
    }

    @Holds(in = "Promise 16", says = "Returns the number.")
    static void soundGoesFrom0To3() {
        Fixityhall x = Keepers.withCopies(3);
        for (int site = 0; site < 3; site++) {
            Check.answers("before damage at site " + site, 3 - site, () -> x.sound(0));
            x.damage(site, 0, 1);
        }
        Check.answers("none is sound", 0, () -> x.sound(0));
        toggleAll(x);
        Check.answers("none is there", 0, () -> x.sound(0));
    }

    @Holds(in = "Promise 16", says = "Throws `IndexOutOfBoundsException` if there is no such unit")
    static void soundRefusesUnitsThatAreNotThere() {
        Twin.refusesEach("unit", Check.INDEX, Keepers::busy, NO_UNIT_OF_4, Fixityhall::sound);
        Twin.refuses("removed", Check.INDEX, CopyBounds::firstUnitRemoved, x -> x.sound(0));
        Check.refuses("a unit 100 of 100", Check.INDEX, () -> Keepers.allUnits().sound(100));
    }

    // ---- promise 17: damage

    @Holds(in = "Promise 17", says = "Damages a copy: what it has becomes other.")
    static void damageChangesThatCopyOnly() {
        Fixityhall x = nineCopies();
        x.damage(1, 0, 1);
        Check.answers("one of unit 0", 2, () -> x.sound(0));
        Check.answers("none of unit 1", 3, () -> x.sound(1));
        x.toggleSite(0);
        x.toggleSite(2);
        Check.refuses("the one at site 1 is not sound", Check.STATE, () -> x.read(0, 0));
    }

    @Holds(in = "Promise 17", says = "`site`: 0 to 3")
    static void damageTakesTheSites0And3() {
        Fixityhall x = nineCopies();
        Check.answers("site 0", 0, () -> damage(x, 0, 1, 1));
        Check.answers("site 3", 0, () -> damage(x, 3, 1, 1));
        Check.answers("both are damaged", 1, () -> x.sound(1));
    }

    @Holds(in = "Promise 17", says = "`unit`: a unit")
    static void damageTakesTheFirstAndTheLastUnit() {
        Fixityhall x = Keepers.allUnits();
        Check.answers("the first one", 0, () -> damage(x, 0, 0, 1));
        Check.answers("the last one", 0, () -> damage(x, Integer.numberOfTrailingZeros(x.sites(99)), 99, 1));
        Check.answers("the last one has two sound ones left", 2, () -> x.sound(99));
    }

    @Holds(in = "Promise 17", says = "`change`: -1000 to 1000, but not 0: what is added")
    static void damageTakesChangesFromMinus1000To1000() {
        int[] pairs = {1000, -1000, -1, 1, 999, -999};
        Fixityhall x = Keepers.withCopies(1);
        for (int i = 0; i < pairs.length; i += 2) {
            int change = pairs[i];
            int back = pairs[i + 1];
            Check.answers("by " + change, 0, () -> damage(x, 0, 0, change));
            Check.answers("by " + back, 1, () -> damage(x, 0, 0, back));
            Check.answers("it has its value again", 500, () -> x.read(0, 0));
        }
    }

    @Holds(in = "Promise 17", says = "but not 0: what is added")
    static void damageAddsUpBelow0AndAbove999999() {
        Fixityhall x = Keepers.oneFormat();
        x.deposit(0, 0, 1);
        x.deposit(0, 999999, 1);
        x.damage(0, 0, -1000);
        Check.answers("-1000 + 30 is -970", 1, () -> damage(x, 0, 0, 30));
        Check.answers("it reads", -970, () -> x.read(0, 0));
        x.damage(1, 1, 1000);
        Check.answers("1000 - 30 is 970", 1, () -> damage(x, 1, 1, -30));
        Check.answers("it reads", 1000969, () -> x.read(1, 0));
    }

    @Holds(in = "Promise 17", says = "Returns true if the copy is sound all the same.")
    static void damageByMultiplesOf97IsNotSeen() {
        int[] changes = {1, 96, 97, 98, -1, -96, -97, -98, 970, -970, 969, 971, 1000, -1000};
        for (int change : changes) {
            Check.answers("by " + change, change % 97 == 0 ? 1 : 0, () -> damage(Keepers.withCopies(1), 0, 0, change));
        }
    }

    @Holds(in = "Promise 17", says = "Returns true if the copy is sound all the same.")
    static void damageOfADamagedCopyCanMakeItSound() {
        Fixityhall x = Keepers.withCopies(1);
        Check.answers("by 1", 0, () -> damage(x, 0, 0, 1));
        Check.answers("by 97 more", 0, () -> damage(x, 0, 0, 97));
        Check.answers("by -1 more", 1, () -> damage(x, 0, 0, -1));
    }

    @Holds(in = "Promise 17", says = "Throws `IllegalArgumentException` if site or change is out of range")
    static void damageRefusesSitesBelow0() {
        Twin.refusesEach("site", Check.ARGUMENT, Keepers::busy, NO_SITE_BELOW, (x, wrong) -> damage(x, wrong, 0, 1));
    }

    @Holds(in = "Promise 17", says = "Throws `IllegalArgumentException` if site or change is out of range")
    static void damageRefusesSitesAbove3() {
        Twin.refusesEach("site", Check.ARGUMENT, Keepers::busy, NO_SITE_ABOVE, (x, wrong) -> damage(x, wrong, 0, 1));
    }

    @Holds(in = "Promise 17", says = "Throws `IllegalArgumentException` if site or change is out of range")
    static void damageRefusesTheChange0() {
        Twin.refuses("change 0", Check.ARGUMENT, Keepers::busy, x -> damage(x, 0, 0, 0));
    }

    @Holds(in = "Promise 17", says = "Throws `IllegalArgumentException` if site or change is out of range")
    static void damageRefusesChangesBelowMinus1000() {
        int[] below = {-1001, LEAST};
        Twin.refusesEach("change", Check.ARGUMENT, Keepers::busy, below, (x, wrong) -> damage(x, 0, 0, wrong));
    }

    @Holds(in = "Promise 17", says = "Throws `IllegalArgumentException` if site or change is out of range")
    static void damageRefusesChangesAbove1000() {
        int[] above = {1001, GREATEST};
        Twin.refusesEach("change", Check.ARGUMENT, Keepers::busy, above, (x, wrong) -> damage(x, 0, 0, wrong));
    }

    @Holds(in = "Promise 17", says = "Throws `IndexOutOfBoundsException` if there is no such unit")
    static void damageRefusesUnitsThatAreNotThere() {
        Twin.refusesEach("unit", Check.INDEX, Keepers::busy, NO_UNIT_OF_4, (x, wrong) -> damage(x, 0, wrong, 1));
        Twin.refuses("removed", Check.INDEX, CopyBounds::firstUnitRemoved, x -> damage(x, 0, 0, 1));
    }

    @Holds(in = "Promise 17", says = "or it has no copy at the site")
    static void damageRefusesASiteThatNeverHadACopy() {
        Twin.refuses("unit 0 at site 3", Check.INDEX, CopyBounds::nineCopies, x -> damage(x, 3, 0, 1));
        Twin.refuses("unit 2 at site 1", Check.INDEX, CopyBounds::nineCopies, x -> damage(x, 1, 2, 1));
    }

    @Holds(in = "Promise 17", says = "or it has no copy at the site")
    static void damageRefusesASiteThatHasNoCopyAnyMore() {
        Twin.refuses("closed", Check.INDEX, () -> toggled(1), x -> damage(x, 0, 0, 1));
        Twin.refuses("opened again", Check.INDEX, () -> toggled(2), x -> damage(x, 0, 0, 1));
    }

    private static Fixityhall toggled(int times) {
        Fixityhall x = nineCopies();
        for (int i = 0; i < times; i++) {
            x.toggleSite(0);
        }
        return x;
    }

    // ---- promise 18: toggleSite

    @Holds(in = "Promise 18", says = "Closes a site, by which all of its copies are gone")
    static void toggleSiteClosesWithAllCopiesThere() {
        Fixityhall x = nineCopies();
        x.toggleSite(0);
        Check.answers("unit 0", 0b0110, () -> x.sites(0));
        Check.answers("unit 1", 0b1010, () -> x.sites(1));
        Check.answers("unit 2", 0b1100, () -> x.sites(2));
        x.deposit(0, 4000, 3);
        Check.answers("nothing is placed there", 0b1110, () -> x.sites(3));
    }

    @Holds(in = "Promise 18", says = "or opens it, without copies.")
    static void toggleSiteOpensWithoutCopies() {
        Fixityhall x = toggled(2);
        Check.answers("unit 0", 0b0110, () -> x.sites(0));
        x.deposit(0, 4000, 1);
        Check.answers("it is the one with the fewest copies", 0b0001, () -> x.sites(3));
    }

    @Holds(in = "Promise 18", says = "`site`: 0 to 3")
    static void toggleSiteTakesTheSites0And3() {
        Fixityhall x = nineCopies();
        Check.answers("site 0", 3, () -> x.toggleSite(0));
        Check.answers("site 3", 2, () -> x.toggleSite(3));
        Check.answers("the others are open", 0b0110, () -> x.sites(0));
    }

    @Holds(in = "Promise 18", says = "Returns how many copies are gone.")
    static void toggleSiteAnswers0WhenItOpensOrHasNone() {
        Fixityhall x = Keepers.withCopies(1);
        Check.answers("closes, with none", 0, () -> x.toggleSite(1));
        Check.answers("closes, with one", 1, () -> x.toggleSite(0));
        Check.answers("opens", 0, () -> x.toggleSite(0));
        Check.answers("closes again, with none", 0, () -> x.toggleSite(0));
    }

    @Holds(in = "Promise 18", says = "Returns how many copies are gone.")
    static void toggleSiteAnswersUpTo100() {
        Fixityhall x = Keepers.allUnits();
        Check.answers("a quarter of 300", 75, () -> x.toggleSite(0));
        x.replicate();
        Check.answers("one of each unit", 100, () -> x.toggleSite(3));
    }

    @Holds(in = "Promise 18", says = "Returns how many copies are gone.")
    static void toggleSiteCountsNoCopiesOfRemovedUnits() {
        Fixityhall x = firstUnitRemoved();
        Check.answers("site 0 had the removed unit", 0, () -> x.toggleSite(0));
        Check.answers("site 1 has the other one", 1, () -> x.toggleSite(1));
    }

    @Holds(in = "Promise 18", says = "Throws `IllegalArgumentException` if site is out of range")
    static void toggleSiteRefusesSitesBelow0() {
        Twin.refusesEach("site", Check.ARGUMENT, Keepers::busy, NO_SITE_BELOW, Fixityhall::toggleSite);
    }

    @Holds(in = "Promise 18", says = "Throws `IllegalArgumentException` if site is out of range")
    static void toggleSiteRefusesSitesAbove3() {
        Twin.refusesEach("site", Check.ARGUMENT, Keepers::busy, NO_SITE_ABOVE, Fixityhall::toggleSite);
    }

    // ---- promise 19: audit

    @Holds(in = "Promise 19", says = "Audits copies in turn.")
    static void auditTakesAsManyCopiesAsThereAreSteps() {
        Fixityhall x = nineCopies();
        x.audit(4);
        nextIs("behind four", x, 1, 1);
        x.audit(2);
        nextIs("behind seven", x, 2, 2);
    }

    @Holds(in = "Promise 19", says = "`steps`: 1 to 100")
    static void auditTakes1And100Steps() {
        Fixityhall x = Keepers.allUnits();
        nextIs("at first", x, 0, 0);
        x.audit(100);
        x.audit(100);
        x.audit(98);
        nextIs("behind 299 copies", x, 99, 3);
        nextIs("behind 300 copies", x, 0, 0);
    }

    @Holds(in = "Promise 19", says = "Returns how many copies are repaired.")
    static void auditCountsNoneAndAll() {
        Fixityhall x = nineCopies();
        Check.answers("none is damaged", 0, () -> x.audit(9));
        for (int unit = 0; unit < 3; unit++) {
            x.damage(0, unit, 1);
        }
        Check.answers("one of each unit", 3, () -> x.audit(9));
        x.damage(0, 0, 1);
        x.damage(1, 0, 2);
        Check.answers("two of one unit", 2, () -> x.audit(9));
    }

    @Holds(in = "Promise 19", says = "Returns how many copies are repaired.")
    static void auditCountsACopyOnceThoughItComesOften() {
        Fixityhall x = Keepers.withCopies(2);
        x.damage(1, 0, 1);
        Check.answers("fifty times", 1, () -> x.audit(100));
        Check.answers("it is repaired", 2, () -> x.sound(0));
    }

    @Holds(in = "Promise 19", says = "Throws `IllegalArgumentException` if steps is out of range")
    static void auditRefusesStepsBelow1() {
        Twin.refusesEach("steps", Check.ARGUMENT, Keepers::busy, new int[] {0, -1, LEAST}, Fixityhall::audit);
    }

    @Holds(in = "Promise 19", says = "Throws `IllegalArgumentException` if steps is out of range")
    static void auditRefusesStepsAbove100() {
        Twin.refusesEach("steps", Check.ARGUMENT, Keepers::busy, new int[] {101, GREATEST}, Fixityhall::audit);
    }

    @Holds(in = "Promise 19", says = "Throws `IllegalStateException` if there are no copies")
    static void auditRefusesWithoutUnits() {
        Twin.refuses("one step", Check.STATE, Keepers::oneFormat, x -> x.audit(1));
        Twin.refuses("a hundred steps", Check.STATE, Keepers::oneFormat, x -> x.audit(100));
    }

    @Holds(in = "Promise 19", says = "Throws `IllegalStateException` if there are no copies")
    static void auditRefusesIfAllCopiesAreGone() {
        Twin.refuses("sites closed", Check.STATE, CopyBounds::allClosed, x -> x.audit(1));
        Check.answers("one copy is enough", 0, () -> Keepers.withCopies(1).audit(1));
    }

    private static Fixityhall allClosed() {
        Fixityhall x = nineCopies();
        toggleAll(x);
        return x;
    }

    @Holds(in = "Promise 19", says = "Throws `IllegalStateException` if there are no copies")
    static void auditRefusesIfTheUnitWithCopiesIsRemoved() {
        Twin.refuses("the other has none", Check.STATE, CopyBounds::onlyTheRemovedUnitHadCopies, x -> x.audit(1));
    }

    private static Fixityhall onlyTheRemovedUnitHadCopies() {
        Fixityhall x = Keepers.withVersions(2);
        x.toggleSite(1);
        x.purge(0, 0);
        return x;
    }

    // ---- promise 20: replicate

    @Holds(in = "Promise 20", says = "Places copies that are lacking")
    static void replicatePlacesNothingWhereNothingIsLacking() {
        Fixityhall x = nineCopies();
        Check.answers("three of each", 0, x::replicate);
        Check.answers("unit 0 is where it was", 0b0111, () -> x.sites(0));
    }

    @Holds(in = "Promise 20", says = "Places copies that are lacking")
    static void replicatePlacesAsManyAsOpenSitesAllow() {
        Fixityhall x = nineCopies();
        x.toggleSite(0);
        x.toggleSite(1);
        Check.answers("at the sites 2 and 3 only", 2, x::replicate);
        Check.answers("unit 0", 0b1100, () -> x.sites(0));
        Check.answers("unit 1", 0b1100, () -> x.sites(1));
        Check.answers("one of each is lacking", 3, x::lacking);
        Check.answers("no more can be placed", 0, x::replicate);
    }

    @Holds(in = "Promise 20", says = "of all units that have a good value")
    static void replicatePassesUnitsWithoutSoundCopies() {
        Fixityhall x = toggled(2);
        x.damage(1, 0, 1);
        x.damage(2, 0, 1);
        Check.answers("of the units 1 and 2", 2, x::replicate);
        Check.answers("unit 0 has what it had", 0b0110, () -> x.sites(0));
        Check.answers("unit 1", 0b1011, () -> x.sites(1));
        Check.answers("unit 2", 0b1101, () -> x.sites(2));
    }

    @Holds(in = "Promise 20", says = "of all units that have a good value")
    static void replicatePassesUnitsWithoutCopies() {
        Fixityhall x = allClosed();
        toggleAll(x);
        Check.answers("none has a good value", 0, x::replicate);
        Check.answers("all are lacking", 9, x::lacking);
    }

    @Holds(in = "Promise 20", says = "by rising unit")
    static void replicateGoesByRisingUnit() {
        Fixityhall x = Keepers.oneFormat();
        x.deposit(0, 1, 2);
        x.deposit(0, 2, 2);
        for (int site : new int[] {1, 3, 1, 3}) {
            x.toggleSite(site);
        }
        Check.answers("one each", 2, x::replicate);
        Check.answers("unit 0 has the lower of the empty sites", 0b0011, () -> x.sites(0));
        Check.answers("unit 1 has the other one", 0b1100, () -> x.sites(1));
    }

    @Holds(in = "Promise 20", says = "each with that.")
    static void replicatePlacesTheGoodValueNotTheUnitsValue() {
        Fixityhall x = Keepers.withCopies(2);
        x.damage(1, 0, 97);
        x.toggleSite(0);
        Check.answers("one", 1, x::replicate);
        x.toggleSite(1);
        Check.answers("it has the good value", 597, () -> x.read(0, 0));
    }

    @Holds(in = "Promise 20", says = "Returns how many copies are placed.")
    static void replicateAnswersUpTo75Of300() {
        Fixityhall x = Keepers.allUnits();
        x.toggleSite(2);
        Check.answers("each unit has three of the other sites then", 75, x::replicate);
        Check.answers("unit 99", 0b1011, () -> x.sites(99));
        Check.answers("a new keeper", 0, () -> new Fixityhall().replicate());
    }

    // ---- promise 21: lacking

    @Holds(in = "Promise 21", says = "Returns the number of copies that are lacking, of all units together.")
    static void lackingGoesFrom0To300() {
        Fixityhall x = Keepers.allUnits();
        Check.answers("none", 0, x::lacking);
        int[] due = {75, 150, 225, 300};
        for (int site = 0; site < 4; site++) {
            x.toggleSite(site);
            Check.answers("up to site " + site, due[site], x::lacking);
        }
    }

    @Holds(in = "Promise 21", says = "Returns the sum, over all units, of the number of copies that it should have")
    static void lackingGoesByWhatEachUnitShouldHave() {
        Fixityhall x = Keepers.oneFormat();
        x.deposit(0, 1, 1);
        x.deposit(0, 2, 2);
        x.deposit(0, 3, 3);
        toggleAll(x);
        Check.answers("1 + 2 + 3", 6, x::lacking);
        x.deposit(0, 1, 3);
        Check.answers("3 + 2 + 3", 8, x::lacking);
        x.revise(1, 3, false);
        x.purge(1, 0);
        Check.answers("3 + 3", 6, x::lacking);
    }

    @Holds(in = "Promise 21", says = "less that of those it has, where this is more than 0.")
    static void lackingDoesNotAskWhetherCopiesAreSound() {
        Fixityhall x = Keepers.withCopies(3);
        for (int site = 0; site < 3; site++) {
            x.damage(site, 0, 1);
        }
        Check.answers("three that are not sound", 0, x::lacking);
        x.toggleSite(0);
        Check.answers("two that are not sound", 1, x::lacking);
    }

    // ---- terms: copies

    @Holds(in = "Terms", says = "There are the sites 0 to 3; a site is open or closed, at first open.")
    static void allFourSitesAreOpenAtFirst() {
        Fixityhall x = Keepers.oneFormat();
        x.deposit(0, 1, 3);
        x.deposit(0, 2, 1);
        Check.answers("the sites 0 to 2", 0b0111, () -> x.sites(0));
        Check.answers("site 3", 0b1000, () -> x.sites(1));
    }

    @Holds(in = "Terms", says = "and if there were several such objects, the greatest of these numbers")
    static void ofSeveralObjectsTheGreatestNumberCounts() {
        int[][] orders = {{1, 2, 3}, {3, 2, 1}, {2, 3, 1}, {1, 3, 2}};
        for (int[] order : orders) {
            Fixityhall x = Keepers.oneFormat();
            for (int copies : order) {
                x.deposit(0, 500, copies);
            }
            Check.answers("three", 3, () -> Integer.bitCount(x.sites(0)));
            toggleAll(x);
            Check.answers("three are lacking", 3, x::lacking);
        }
    }

    @Holds(in = "Terms", says = "as are wanted by the object of which a version came to have it as its unit")
    static void revisionsAndConversionsWantWhatTheirObjectWants() {
        Fixityhall x = Keepers.withFormats(2);
        x.addConversion(0, 1, 5);
        x.deposit(0, 1, 2);
        x.revise(0, 2, false);
        x.revise(0, 3, true);
        x.convert(0, 1);
        for (int i = 0; i < 4; i++) {
            int unit = i;
            Check.answers("unit " + unit, 2, () -> x.sound(unit));
        }
    }

    @Holds(in = "Terms", says = "as are wanted by the object of which a version came to have it as its unit")
    static void aBaseIsNotWantedMoreBecauseItsDifferenceIs() {
        Fixityhall x = Keepers.oneFormat();
        x.deposit(0, 100, 1);
        x.revise(0, 107, true);
        x.deposit(0, 200, 3);
        x.revise(1, 207, true);
        Check.answers("the shared difference", 3, () -> x.sound(1));
        Check.answers("the base of object 0", 1, () -> x.sound(0));
        Check.answers("none is lacking", 0, x::lacking);
    }

    @Holds(in = "Terms", says = "that does not become less.")
    static void thePurgeOfWhoWantedMostLeavesTheNumber() {
        Fixityhall x = Keepers.oneFormat();
        x.deposit(0, 500, 1);
        x.deposit(0, 500, 3);
        x.revise(1, 7, false);
        x.purge(1, 0);
        Check.answers("three are there", 3, () -> x.sound(0));
        x.toggleSite(0);
        x.toggleSite(1);
        Check.answers("two of unit 0 and two of the other", 2 + 2, x::lacking);
    }

    @Holds(in = "Terms", says = "that does not become less.")
    static void aUnitMadeAnewBeginsWithWhatItsOwnObjectWants() {
        Fixityhall x = Keepers.withCopies(3);
        x.revise(0, 7, false);
        x.purge(0, 0);
        x.deposit(0, 500, 1);
        Check.answers("it is another unit", 2, () -> x.unitOf(1, 0));
        Check.answers("of one copy", 1, () -> x.sound(2));
        Check.answers("none is lacking", 0, x::lacking);
    }

    @Holds(in = "Terms", says = "as long as the unit has fewer copies than it should have")
    static void noMoreCopiesArePlacedThanThereShouldBe() {
        Fixityhall x = Keepers.withCopies(2);
        x.deposit(0, 500, 2);
        Check.answers("shared with the same number", 0b0011, () -> x.sites(0));
        x.deposit(0, 500, 1);
        Check.answers("shared with a smaller one", 0b0011, () -> x.sites(0));
        x.replicate();
        Check.answers("replicated", 0b0011, () -> x.sites(0));
    }

    @Holds(in = "Terms", says = "and some open site has none of it")
    static void withFewOpenSitesFewCopiesArePlaced() {
        for (int closed = 0; closed <= 4; closed++) {
            Fixityhall x = Keepers.oneFormat();
            for (int site = 0; site < closed; site++) {
                x.toggleSite(site);
            }
            x.deposit(0, 500, 3);
            int placed = Math.min(3, 4 - closed);
            Check.answers(closed + " closed: copies", placed, () -> x.sound(0));
            Check.answers(closed + " closed: lacking", 3 - placed, x::lacking);
        }
    }

    @Holds(in = "Terms", says = "and some open site has none of it")
    static void withoutAnOpenSiteUnitsAreMadeWithoutCopies() {
        Fixityhall x = Keepers.oneFormat();
        toggleAll(x);
        Check.answers("deposit", 0, () -> x.deposit(0, 500, 3));
        Check.answers("revise", 1, () -> x.revise(0, 510, true));
        Check.answers("two units", 2, x::units);
        Check.answers("without copies", 0, () -> x.sites(1));
        Check.answers("replicate", 0, x::replicate);
        Check.refuses("it cannot be read", Check.STATE, () -> x.read(0, 0));
    }

    @Holds(in = "Terms", says = "at the one with the fewest copies of all units together")
    static void theSiteWithTheFewestCopiesGetsTheNextOne() {
        Fixityhall x = nineCopies();
        x.deposit(0, 4000, 2);
        Check.answers("3 2 2 2: the sites 1 and 2", 0b0110, () -> x.sites(3));
        x.deposit(0, 5000, 1);
        Check.answers("3 3 3 2: site 3", 0b1000, () -> x.sites(4));
    }

    @Holds(in = "Terms", says = "at the one with the fewest copies of all units together")
    static void copiesThatAreGoneCountNoMore() {
        Fixityhall x = nineCopies();
        x.revise(2, 4000, false);
        x.purge(2, 0);
        Check.answers("unit 2 was at 0 2 3, unit 3 came to 1 2 3", 0b1110, () -> x.sites(3));
        x.deposit(0, 5000, 1);
        Check.answers("2 3 2 2: site 0", 0b0001, () -> x.sites(4));
        x.deposit(0, 6000, 1);
        Check.answers("3 3 2 2: site 2", 0b0100, () -> x.sites(5));
    }

    @Holds(in = "Terms", says = "of several the one with the lowest number.")
    static void ofEqualSitesTheLowestGetsTheNextOne() {
        Fixityhall x = Keepers.oneFormat();
        int[] due = {0b0011, 0b1100, 0b0011, 0b1100};
        for (int i = 0; i < 4; i++) {
            int unit = i;
            x.deposit(0, unit, 2);
            Check.answers("unit " + unit, due[unit], () -> x.sites(unit));
        }
    }

    @Holds(in = "Terms", says = "When a unit is made, its copies are placed with its value")
    static void aNewUnitsCopiesHaveItsValue() {
        Fixityhall x = Keepers.withCopies(3);
        x.revise(0, 0, true);
        Check.answers("the difference -500", 3, () -> x.sound(1));
        Check.answers("it reads", 0, () -> x.read(0, 1));
        x.damage(0, 0, 97);
        x.damage(1, 0, 97);
        x.revise(0, 501, true);
        Check.answers("the difference 501, whatever its base has", 97 + 501, () -> x.read(0, 2));
    }

    @Holds(in = "Terms", says = "when a version comes to share a unit that has a good value, copies are placed with that.")
    static void sharingPlacesTheGoodValueNotTheUnitsValue() {
        Fixityhall x = Keepers.withCopies(1);
        x.damage(0, 0, 97);
        x.deposit(0, 500, 2);
        Check.answers("placed", 0b0011, () -> x.sites(0));
        x.toggleSite(0);
        Check.answers("the new one has", 597, () -> x.read(1, 0));
    }

    @Holds(in = "Terms", says = "when a version comes to share a unit that has a good value, copies are placed with that.")
    static void sharingPlacesNothingWithoutAGoodValue() {
        Fixityhall x = Keepers.withCopies(1);
        x.damage(0, 0, 1);
        x.deposit(0, 500, 3);
        Check.answers("nothing is placed", 0b0001, () -> x.sites(0));
        Check.answers("though three are wanted", 2, x::lacking);
        Fixityhall y = Keepers.withCopies(1);
        y.toggleSite(0);
        y.deposit(0, 500, 3);
        Check.answers("nor without copies, with open sites", 0, () -> y.sites(0));
    }

    @Holds(in = "Terms", says = "when a version comes to share a unit that has a good value, copies are placed with that.")
    static void sharingPlacesWhatWasLackingBefore() {
        Fixityhall x = Keepers.withCopies(3);
        x.toggleSite(0);
        x.deposit(0, 500, 1);
        Check.answers("by a deposit", 0b1110, () -> x.sites(0));
        x.toggleSite(1);
        x.toggleSite(0);
        x.revise(1, 500, false);
        Check.answers("by a revision", 0b1101, () -> x.sites(0));
    }

    // ---- terms: digests and good values

    @Holds(in = "Terms", says = "The digest of a value is its remainder by 97, which is 0 to 96")
    static void theDigest96IsFollowedBy0() {
        Fixityhall x = Keepers.oneFormat();
        x.deposit(0, 96, 1);
        x.deposit(0, 97, 1);
        Check.answers("97 is not 96", 0, () -> damage(x, 0, 0, 1));
        Check.answers("193 is 96", 1, () -> damage(x, 0, 0, 96));
        Check.answers("96 is not 97", 0, () -> damage(x, 1, 1, -1));
        Check.answers("0 is 97", 1, () -> damage(x, 1, 1, -96));
    }

    @Holds(in = "Terms", says = "(also of a value below 0).")
    static void theDigestOfACopyBelow0() {
        Fixityhall x = Keepers.oneFormat();
        x.deposit(0, 0, 1);
        x.deposit(0, 96, 1);
        x.deposit(0, 1, 1);
        Check.answers("-97 is 0", 1, () -> damage(x, 0, 0, -97));
        Check.answers("-98 is not", 0, () -> damage(x, 0, 0, -1));
        Check.answers("-1 is 96", 1, () -> damage(x, 1, 1, -97));
        Check.answers("-96 is 1", 1, () -> damage(x, 2, 2, -97));
        Check.answers("-1 is not 1", 0, () -> damage(x, 2, 2, 95));
    }

    @Holds(in = "Terms", says = "(also of a value below 0).")
    static void theDigestOfAUnitsValueBelow0() {
        Fixityhall x = Keepers.oneFormat();
        x.deposit(0, 97, 1);
        x.revise(0, 96, true);
        x.revise(0, 0, false);
        x.deposit(0, 97, 1);
        x.revise(1, 0, true);
        Check.answers("96 is -1", 1, () -> damage(x, 1, 1, 97));
        Check.answers("1 is not", 0, () -> damage(x, 1, 1, -95));
        Check.answers("0 is -97", 1, () -> damage(x, 3, 3, 97));
        Check.answers("-97 - 97 is -97", 1, () -> damage(x, 3, 3, -194));
    }

    @Holds(in = "Terms", says = "A copy is sound if the digest of what it has is that of the unit's value.")
    static void soundGoesByTheUnitsValueNotByMostCopies() {
        Fixityhall x = Keepers.withCopies(3);
        x.damage(1, 0, 1);
        x.damage(2, 0, 1);
        Check.answers("two agree on another digest", 1, () -> x.sound(0));
        Check.answers("it reads", 500, () -> x.read(0, 0));
        x.damage(0, 0, 97);
        x.audit(3);
        Check.answers("repaired with 597", 597, () -> x.read(0, 0));
        Check.answers("which is sound", 3, () -> x.sound(0));
    }

    @Holds(in = "Terms", says = "The good value of a unit is what most of its sound copies have")
    static void twoSoundCopiesGoBeforeOneAtALowerSite() {
        Fixityhall x = Keepers.withCopies(3);
        x.damage(0, 0, 97);
        Check.answers("the sites 1 and 2", 500, () -> x.read(0, 0));
        Fixityhall y = Keepers.withCopies(3);
        y.damage(1, 0, 97);
        Check.answers("the sites 0 and 2", 500, () -> y.read(0, 0));
        y.damage(2, 0, 97);
        Check.answers("again the sites 1 and 2", 597, () -> y.read(0, 0));
    }

    @Holds(in = "Terms", says = "of several values the one that the copy at the lowest site has among these")
    static void ofEqualNumbersTheLowestSitesValueIsGood() {
        Fixityhall x = Keepers.withCopies(2);
        x.damage(0, 0, 97);
        Check.answers("one against one, the greater", 597, () -> x.read(0, 0));
        x.damage(0, 0, -194);
        Check.answers("one against one, the smaller", 403, () -> x.read(0, 0));
        Fixityhall y = Keepers.withCopies(3);
        y.damage(0, 0, -97);
        y.damage(1, 0, 97);
        Check.answers("three values", 403, () -> y.read(0, 0));
    }

    @Holds(in = "Terms", says = "of several values the one that the copy at the lowest site has among these")
    static void theLowestSiteIsThatOfASoundCopy() {
        Fixityhall x = Keepers.withCopies(3);
        x.damage(0, 0, 1);
        x.damage(1, 0, 97);
        Check.answers("site 0 is not sound", 597, () -> x.read(0, 0));
        x.toggleSite(1);
        Check.answers("site 2 is left", 500, () -> x.read(0, 0));
    }

    @Holds(in = "Terms", says = "a unit without sound copies has none.")
    static void withoutSoundCopiesThereIsNoGoodValue() {
        Fixityhall x = Keepers.withCopies(3);
        for (int site = 0; site < 3; site++) {
            x.damage(site, 0, 1);
        }
        Check.refuses("three that agree are not sound", Check.STATE, () -> x.read(0, 0));
        Check.answers("none is repaired", 0, () -> x.audit(100));
        x.toggleSite(0);
        Check.answers("none is placed", 0, x::replicate);
    }

    @Holds(in = "Terms", says = "a unit without sound copies has none.")
    static void withoutCopiesThereIsNoGoodValue() {
        Fixityhall x = Keepers.withCopies(1);
        x.toggleSite(0);
        Check.refuses("it is not read", Check.STATE, () -> x.read(0, 0));
        Check.answers("none is placed", 0, x::replicate);
    }

    @Holds(in = "Terms", says = "(Damage that leaves the digest as it is cannot be seen by it.)")
    static void unseenDamageIsReadAsTheGoodValue() {
        Fixityhall x = Keepers.withCopies(2);
        x.damage(0, 0, 970);
        x.damage(1, 0, 970);
        Check.answers("both are sound", 2, () -> x.sound(0));
        Check.answers("it reads", 1470, () -> x.read(0, 0));
        Check.answers("nothing is repaired", 0, () -> x.audit(2));
    }

    // ---- terms: audits

    @Holds(in = "Terms", says = "Audits go through the copies in turn, by rising unit, and for each unit by rising site")
    static void nineCopiesAreAuditedInTheirOrder() {
        Fixityhall x = nineCopies();
        for (int[] copy : TURN_OF_NINE) {
            nextIs("one by one", x, copy[0], copy[1]);
        }
    }

    @Holds(in = "Terms", says = "behind the last copy the first one comes again.")
    static void behindTheLastCopyTheFirstOneComes() {
        Fixityhall x = nineCopies();
        x.audit(9);
        nextIs("in another audit", x, 0, 0);
        x.audit(7);
        x.damage(3, 2, 1);
        x.damage(0, 0, 1);
        Check.answers("in one audit", 2, () -> x.audit(2));
        nextIs("behind the first one", x, 0, 1);
    }

    @Holds(in = "Terms", says = "behind the last copy the first one comes again.")
    static void anOnlyCopyComesBehindItself() {
        Fixityhall x = Keepers.withCopies(2);
        x.damage(1, 0, 97);
        x.toggleSite(0);
        Check.answers("it is the good one itself", 0, () -> x.audit(100));
        Check.answers("it reads", 597, () -> x.read(0, 0));
    }

    @Holds(in = "Terms", says = "An audit begins behind the copy that was audited last")
    static void eachAuditGoesOnBehindTheOneBefore() {
        Fixityhall x = nineCopies();
        x.audit(5);
        nextIs("behind five", x, 1, 3);
        x.audit(9);
        nextIs("behind a round", x, 2, 0);
    }

    @Holds(in = "Terms", says = "at first with the first one.")
    static void theFirstAuditBeginsWithTheFirstCopyThatIsThere() {
        nextIs("all are there", nineCopies(), 0, 0);
        Fixityhall x = nineCopies();
        x.toggleSite(0);
        nextIs("site 0 is closed", x, 0, 1);
        Fixityhall y = nineCopies();
        y.revise(0, 4000, false);
        y.purge(0, 0);
        nextIs("unit 0 is removed", y, 1, 0);
    }

    @Holds(in = "Terms", says = "(or where it would be, if it is gone)")
    static void behindACopyThatIsGoneWithItsSiteTheNextOneComes() {
        Fixityhall x = nineCopies();
        x.audit(2);
        x.toggleSite(1);
        nextIs("unit 0 at site 1 is gone", x, 0, 2);
        x.toggleSite(2);
        nextIs("unit 0 at site 2 is gone too", x, 1, 0);
    }

    @Holds(in = "Terms", says = "(or where it would be, if it is gone)")
    static void behindACopyThatIsGoneWithItsUnitTheNextOneComes() {
        Fixityhall x = nineCopies();
        x.revise(1, 4000, false);
        x.audit(4);
        x.purge(1, 0);
        nextIs("unit 1 is removed", x, 2, 0);
    }

    @Holds(in = "Terms", says = "(or where it would be, if it is gone)")
    static void behindTheLastCopyThatIsGoneTheFirstOneComes() {
        Fixityhall x = nineCopies();
        x.audit(9);
        x.toggleSite(3);
        nextIs("unit 2 at site 3 is gone", x, 0, 0);
        Fixityhall y = nineCopies();
        y.revise(2, 4000, false);
        y.toggleSite(3);
        y.audit(9);
        Check.answers("unit 3 goes", 1, () -> y.purge(2, 1));
        nextIs("the last unit is removed", y, 0, 0);
    }

    @Holds(in = "Terms", says = "(or where it would be, if it is gone)")
    static void aCopyThatIsPlacedWhereTheLastOneWasComesBehindAllOthers() {
        Fixityhall x = nineCopies();
        x.audit(2);
        x.toggleSite(1);
        x.toggleSite(1);
        x.toggleSite(3);
        x.replicate();
        Check.answers("unit 0 has one at site 1 again", 0b0111, () -> x.sites(0));
        nextIs("behind where it was", x, 0, 2);
    }

    @Holds(in = "Terms", says = "(or where it would be, if it is gone)")
    static void aUnitThatIsMadeBehindTheLastCopyComesNext() {
        Fixityhall x = nineCopies();
        x.audit(9);
        x.deposit(0, 4000, 3);
        Check.answers("unit 3", 0b0111 << 1, () -> x.sites(3));
        nextIs("it is the last one now", x, 3, 1);
    }

    @Holds(in = "Terms", says = "A copy that is audited is repaired, if its unit has a good value and the copy has another one")
    static void aSoundCopyOfAnotherValueIsRepaired() {
        Fixityhall x = Keepers.withCopies(3);
        x.damage(2, 0, 97);
        Check.answers("all are sound", 3, () -> x.sound(0));
        Check.answers("the last one is repaired", 1, () -> x.audit(3));
        x.toggleSite(0);
        x.toggleSite(1);
        Check.answers("it has the good value", 500, () -> x.read(0, 0));
    }

    @Holds(in = "Terms", says = "A copy that is audited is repaired, if its unit has a good value and the copy has another one")
    static void onlyTheCopyThatIsAuditedIsRepaired() {
        Fixityhall x = Keepers.withCopies(3);
        x.damage(0, 0, 1);
        x.damage(1, 0, 1);
        Check.answers("the first one", 1, () -> x.audit(1));
        Check.answers("the second one is not yet", 2, () -> x.sound(0));
    }

    @Holds(in = "Terms", says = "A copy that is audited is repaired, if its unit has a good value and the copy has another one")
    static void withoutAGoodValueNothingIsRepaired() {
        Fixityhall x = Keepers.withCopies(2);
        x.damage(0, 0, 1);
        x.damage(1, 0, 2);
        Check.answers("none", 0, () -> x.audit(2));
        x.damage(0, 0, -1);
        Check.answers("the first one is as it was", 1, () -> x.sound(0));
        Check.answers("then the second one", 1, () -> x.audit(2));
    }

    @Holds(in = "Terms", says = "it has the good value then.")
    static void theGoodValueIsThatOfTheMomentOfTheAudit() {
        Fixityhall x = Keepers.withCopies(3);
        x.damage(0, 0, 97);
        x.damage(1, 0, 194);
        Check.answers("597, 694, 500: the other two get the first one's", 2, () -> x.audit(3));
        x.toggleSite(0);
        x.toggleSite(1);
        Check.answers("the last one has", 597, () -> x.read(0, 0));
    }
}
