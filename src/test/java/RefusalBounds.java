/** The edges of what is refused: which exception goes first, that nothing changes by it, and how long an object is used. */
final class RefusalBounds {
    private static final int NONE = 50;

    private RefusalBounds() {
    }

    private static long damage(Fixityhall x, int site, int unit, int change) {
        return x.damage(site, unit, change) ? 1 : 0;
    }

    // ---- what it is

    @Holds(in = "What it is", says = "An object is used for at most 512 calls after it has been made")
    static void theFiveHundredAndTwelfthCallAnswersAfterTheMostDamage() {
        for (int change : new int[] {970, -970}) {
            int content = change > 0 ? 999999 : 0;
            Fixityhall x = Keepers.oneFormat();
            x.deposit(0, content, 1);
            for (int call = 3; call < 512; call++) {
                x.damage(0, 0, change);
            }
            Check.answers("read", content + 509 * change, () -> x.read(0, 0));
        }
    }

    @Holds(in = "What it is", says = "An object is used for at most 512 calls after it has been made")
    static void theFiveHundredAndTwelfthCallAnswersAfterTheMostAudits() {
        Fixityhall x = Keepers.withCopies(2);
        for (int call = 3; call < 511; call++) {
            x.audit(100);
        }
        x.damage(0, 0, 1);
        Check.answers("audit", 1, () -> x.audit(100));
    }

    // ---- terms: what each exception is for

    @Holds(in = "Terms", says = "IndexOutOfBoundsException is thrown for a format, object, version, unit or copy that does not exist")
    static void whatDoesNotExistIsAnIndexOutOfBounds() {
        Twin.refuses("a format", Check.INDEX, Keepers::busy, x -> x.bestWay(0, NONE));
        Twin.refuses("an object", Check.INDEX, Keepers::busy, x -> x.versions(NONE));
        Twin.refuses("a version", Check.INDEX, Keepers::busy, x -> x.read(0, NONE));
        Twin.refuses("a unit", Check.INDEX, Keepers::busy, x -> x.sound(NONE));
        Twin.refuses("a copy", Check.INDEX, Keepers::busy, x -> damage(x, 2, 1, 1));
    }

    @Holds(in = "Terms", says = "unit or copy that does not exist (any more)")
    static void whatDoesNotExistAnyMoreIsAnIndexOutOfBounds() {
        Twin.refuses("a purged version", Check.INDEX, Keepers::busy, x -> x.unitOf(0, 1));
        Twin.refuses("a removed unit", Check.INDEX, RefusalBounds::purgedOnce, x -> x.sites(0));
        Twin.refuses("a copy of a closed site", Check.INDEX, RefusalBounds::closedOnce, x -> damage(x, 1, 0, 1));
    }

    private static Fixityhall purgedOnce() {
        Fixityhall x = Keepers.withVersions(2);
        x.purge(0, 0);
        return x;
    }

    private static Fixityhall closedOnce() {
        Fixityhall x = Keepers.withCopies(2);
        x.toggleSite(1);
        return x;
    }

    @Holds(in = "Terms", says = "IllegalArgumentException for another argument out of range")
    static void otherArgumentsOutOfRangeAreIllegal() {
        Twin.refuses("a risk", Check.ARGUMENT, Keepers::busy, x -> x.addFormat(101));
        Twin.refuses("a loss", Check.ARGUMENT, Keepers::busy, x -> x.addConversion(0, 1, 101));
        Twin.refuses("a content", Check.ARGUMENT, Keepers::busy, x -> x.revise(0, 1000000, true));
        Twin.refuses("a number of copies", Check.ARGUMENT, Keepers::busy, x -> x.deposit(0, 5, 0));
        Twin.refuses("a site", Check.ARGUMENT, Keepers::busy, x -> x.toggleSite(4));
        Twin.refuses("a change", Check.ARGUMENT, Keepers::busy, x -> damage(x, 0, 0, 0));
        Twin.refuses("a number of steps", Check.ARGUMENT, Keepers::busy, x -> x.audit(0));
    }

    @Holds(in = "Terms", says = "and IllegalStateException if a call is not possible now.")
    static void whatIsNotPossibleNowCanBePossibleLater() {
        Fixityhall x = Keepers.withObjects(1);
        Check.refuses("convert without a way", Check.STATE, () -> x.convert(0, 1));
        x.addConversion(0, 1, 5);
        x.damage(0, 0, 1);
        Check.refuses("convert of what cannot be read", Check.STATE, () -> x.convert(0, 1));
        x.damage(0, 0, -1);
        Check.answers("convert", 1, () -> x.convert(0, 1));
        x.purge(0, 0);
        Check.refuses("purge of the only version", Check.STATE, () -> x.purge(0, 1));
        x.revise(0, 7, false);
        Check.answers("purge", 1, () -> x.purge(0, 1));
        x.toggleSite(0);
        Check.refuses("audit without copies", Check.STATE, () -> x.audit(1));
        x.toggleSite(0);
        x.revise(0, 8, false);
        Check.answers("audit", 0, () -> x.audit(1));
    }

    // ---- terms: which exception goes first

    @Holds(in = "Terms", says = "If several apply, IllegalArgumentException goes first")
    static void addFormatLooksAtTheRiskBeforeTheNumberOfFormats() {
        Twin.refuses("above", Check.ARGUMENT, Keepers::allFormats, x -> x.addFormat(101));
        Twin.refuses("below", Check.ARGUMENT, Keepers::allFormats, x -> x.addFormat(-1));
    }

    @Holds(in = "Terms", says = "If several apply, IllegalArgumentException goes first")
    static void setRiskLooksAtTheRiskBeforeTheFormat() {
        Twin.refuses("above", Check.ARGUMENT, Keepers::busy, x -> x.setRisk(NONE, 101));
        Twin.refuses("below", Check.ARGUMENT, Keepers::busy, x -> x.setRisk(-1, -1));
    }

    @Holds(in = "Terms", says = "If several apply, IllegalArgumentException goes first")
    static void addConversionLooksAtTheLossBeforeTheFormats() {
        Twin.refuses("from", Check.ARGUMENT, Keepers::busy, x -> x.addConversion(NONE, 0, 101));
        Twin.refuses("to", Check.ARGUMENT, Keepers::busy, x -> x.addConversion(0, -1, -1));
    }

    @Holds(in = "Terms", says = "If several apply, IllegalArgumentException goes first")
    static void addConversionLooksAtSameFormatsBeforeTheirBeingThere() {
        for (int none : new int[] {3, 8, -1, Integer.MIN_VALUE, Integer.MAX_VALUE}) {
            Twin.refuses("format " + none, Check.ARGUMENT, Keepers::busy, x -> x.addConversion(none, none, 5));
        }
    }

    @Holds(in = "Terms", says = "If several apply, IllegalArgumentException goes first")
    static void depositLooksAtContentAndCopiesBeforeTheFormat() {
        Twin.refuses("content", Check.ARGUMENT, Keepers::busy, x -> x.deposit(NONE, -1, 1));
        Twin.refuses("copies", Check.ARGUMENT, Keepers::busy, x -> x.deposit(NONE, 5, 4));
    }

    @Holds(in = "Terms", says = "If several apply, IllegalArgumentException goes first")
    static void depositLooksAtContentAndCopiesBeforeTheNumberOfObjects() {
        Twin.refuses("content", Check.ARGUMENT, Keepers::allObjects, x -> x.deposit(0, 1000000, 1));
        Twin.refuses("copies", Check.ARGUMENT, Keepers::allObjects, x -> x.deposit(0, 5, 0));
        Twin.refuses("content, and no format", Check.ARGUMENT, Keepers::allObjects, x -> x.deposit(NONE, -1, 1));
    }

    @Holds(in = "Terms", says = "then IndexOutOfBoundsException, then IllegalStateException.")
    static void depositLooksAtTheFormatBeforeTheNumberOfObjects() {
        Twin.refuses("an eleventh object", Check.INDEX, Keepers::allObjects, x -> x.deposit(NONE, 5, 1));
    }

    @Holds(in = "Terms", says = "If several apply, IllegalArgumentException goes first")
    static void reviseLooksAtTheContentBeforeTheObject() {
        Twin.refuses("above", Check.ARGUMENT, Keepers::busy, x -> x.revise(NONE, 1000000, false));
        Twin.refuses("below", Check.ARGUMENT, Keepers::busy, x -> x.revise(-1, -1, true));
    }

    @Holds(in = "Terms", says = "If several apply, IllegalArgumentException goes first")
    static void reviseLooksAtTheContentBeforeTheNumberOfVersions() {
        Twin.refuses("above", Check.ARGUMENT, Keepers::allVersions, x -> x.revise(0, 1000000, false));
        Twin.refuses("below", Check.ARGUMENT, Keepers::allVersions, x -> x.revise(0, -1, true));
    }

    @Holds(in = "Terms", says = "then IndexOutOfBoundsException, then IllegalStateException.")
    static void convertLooksAtTheFormatBeforeTheNumberOfVersions() {
        Twin.refuses("an eleventh version", Check.INDEX, Keepers::allVersions, x -> x.convert(0, 2));
    }

    @Holds(in = "Terms", says = "then IndexOutOfBoundsException, then IllegalStateException.")
    static void convertLooksAtTheFormatBeforeReading() {
        Twin.refuses("a version that cannot be read", Check.INDEX, RefusalBounds::unreadable, x -> x.convert(0, 2));
    }

    private static Fixityhall unreadable() {
        Fixityhall x = Keepers.withVersions(2);
        x.purge(0, 0);
        x.damage(1, 1, 1);
        return x;
    }

    @Holds(in = "Terms", says = "then IndexOutOfBoundsException, then IllegalStateException.")
    static void purgeLooksAtTheVersionBeforeHowManyThereAre() {
        Twin.refuses("one that was never there", Check.INDEX, RefusalBounds::unreadable, x -> x.purge(0, 2));
        Twin.refuses("one that is purged", Check.INDEX, RefusalBounds::unreadable, x -> x.purge(0, 0));
    }

    @Holds(in = "Terms", says = "then IndexOutOfBoundsException, then IllegalStateException.")
    static void readLooksAtTheVersionBeforeItsUnits() {
        Twin.refuses("purged, and not to be read", Check.INDEX, RefusalBounds::purgedAndDamaged, x -> x.read(0, 0));
    }

    /** Version 0 is purged, but the base of version 1; neither can be read. */
    private static Fixityhall purgedAndDamaged() {
        Fixityhall x = Keepers.withVersions(1);
        x.revise(0, 120, true);
        x.purge(0, 0);
        x.damage(0, 0, 1);
        return x;
    }

    @Holds(in = "Terms", says = "If several apply, IllegalArgumentException goes first")
    static void damageLooksAtSiteAndChangeBeforeTheUnit() {
        Twin.refuses("site", Check.ARGUMENT, Keepers::busy, x -> damage(x, 4, NONE, 1));
        Twin.refuses("change", Check.ARGUMENT, Keepers::busy, x -> damage(x, 0, NONE, 0));
    }

    @Holds(in = "Terms", says = "If several apply, IllegalArgumentException goes first")
    static void damageLooksAtTheChangeBeforeTheCopy() {
        Twin.refuses("change", Check.ARGUMENT, Keepers::busy, x -> damage(x, 3, 0, 1001));
        Twin.refuses("change 0", Check.ARGUMENT, Keepers::busy, x -> damage(x, 3, 0, 0));
    }

    @Holds(in = "Terms", says = "If several apply, IllegalArgumentException goes first")
    static void auditLooksAtTheStepsBeforeTheCopies() {
        Twin.refuses("none", Check.ARGUMENT, Keepers::oneFormat, x -> x.audit(0));
        Twin.refuses("too many", Check.ARGUMENT, Keepers::oneFormat, x -> x.audit(101));
    }

    // ---- terms: a refused call changes nothing

    @Holds(in = "Terms", says = "A call that throws an exception changes nothing.")
    static void aRefusedAddFormatLeavesTheFormats() {
        Fixityhall x = Keepers.allFormats();
        Check.refuses("ninth", Check.STATE, () -> x.addFormat(99));
        for (int i = 0; i < 8; i++) {
            int format = i;
            Check.answers("risk of " + format, 10 * format, () -> x.setRisk(format, 0));
        }
    }

    @Holds(in = "Terms", says = "A call that throws an exception changes nothing.")
    static void aRefusedSetRiskLeavesTheRisk() {
        Fixityhall x = Keepers.withFormats(2);
        Check.refuses("risk", Check.ARGUMENT, () -> x.setRisk(1, 101));
        Check.refuses("format", Check.INDEX, () -> x.setRisk(2, 99));
        Check.answers("as before", 10, () -> x.setRisk(1, 10));
        Check.answers("the format added next has its own", 2, () -> x.addFormat(55));
        Check.answers("as added", 55, () -> x.setRisk(2, 0));
    }

    @Holds(in = "Terms", says = "A call that throws an exception changes nothing.")
    static void aRefusedAddConversionLeavesTheWays() {
        Fixityhall x = Keepers.withFormats(2);
        x.addConversion(0, 1, 40);
        Check.refuses("loss", Check.ARGUMENT, () -> x.addConversion(0, 1, 101));
        Check.refuses("format", Check.INDEX, () -> x.addConversion(0, 2, 1));
        Check.answers("as before", 4001, () -> x.bestWay(0, 1));
        x.addFormat(5);
        Check.answers("none waits for the format added next", -1, () -> x.bestWay(0, 2));
    }

    @Holds(in = "Terms", says = "A call that throws an exception changes nothing.")
    static void aRefusedDepositNeitherSharesNorPlaces() {
        Fixityhall x = Keepers.allObjects();
        Check.refuses("eleventh", Check.STATE, () -> x.deposit(0, 0, 3));
        Check.answers("copies of unit 0", 0b0001, () -> x.sites(0));
        Check.answers("lacking", 0, x::lacking);
        Check.answers("units", 10, x::units);
    }

    @Holds(in = "Terms", says = "A call that throws an exception changes nothing.")
    static void aRefusedReviseNeitherSharesNorPlaces() {
        Fixityhall x = Keepers.allVersions();
        x.deposit(0, 4711, 3);
        x.toggleSite(3);
        Check.refuses("eleventh", Check.STATE, () -> x.revise(0, 4711, false));
        Check.answers("of the copies at 0 2 3 none is placed anew", 0b0101, () -> x.sites(10));
        Check.answers("lacking: two units had their only copy at site 3", 1 + 2, x::lacking);
        Check.answers("versions", 1023, () -> x.versions(0));
        Check.answers("units", 11, x::units);
    }

    @Holds(in = "Terms", says = "A call that throws an exception changes nothing.")
    static void aRefusedConvertLeavesObjectAndFormat() {
        Fixityhall x = unreadable();
        Check.refuses("not to be read", Check.STATE, () -> x.convert(0, 1));
        Check.answers("versions", 0b10, () -> x.versions(0));
        Check.answers("units", 1, x::units);
        Check.answers("format", 0, () -> x.atRisk(10));
        x.damage(1, 1, -1);
        Check.answers("its number is not used up", 2, () -> x.convert(0, 1));
    }

    @Holds(in = "Terms", says = "A call that throws an exception changes nothing.")
    static void aRefusedPurgeLeavesVersionAndUnits() {
        Fixityhall x = Keepers.withVersions(1);
        Check.refuses("the only one", Check.STATE, () -> x.purge(0, 0));
        Check.answers("versions", 1, () -> x.versions(0));
        Check.answers("it reads", 100, () -> x.read(0, 0));
        Fixityhall y = purgedAndDamaged();
        Check.refuses("purged once", Check.INDEX, () -> y.purge(0, 0));
        Check.answers("the base is not given up twice", 2, y::units);
    }

    @Holds(in = "Terms", says = "A call that throws an exception changes nothing.")
    static void aRefusedReadRepairsNothing() {
        Fixityhall x = unreadable();
        Check.refuses("not to be read", Check.STATE, () -> x.read(0, 1));
        Check.answers("not sound", 0, () -> x.sound(1));
    }

    @Holds(in = "Terms", says = "A call that throws an exception changes nothing.")
    static void aRefusedDamageLeavesTheCopies() {
        Fixityhall x = Keepers.withCopies(2);
        Check.refuses("change", Check.ARGUMENT, () -> damage(x, 0, 0, 1001));
        Check.refuses("site", Check.ARGUMENT, () -> damage(x, 4, 0, 1));
        Check.refuses("copy", Check.INDEX, () -> damage(x, 2, 0, 1));
        Check.answers("sound", 2, () -> x.sound(0));
        Check.answers("no copy came", 0b0011, () -> x.sites(0));
        x.deposit(0, 500, 3);
        Check.answers("the one placed there is sound", 3, () -> x.sound(0));
    }

    @Holds(in = "Terms", says = "A call that throws an exception changes nothing.")
    static void aRefusedToggleSiteLeavesTheSites() {
        Fixityhall x = Keepers.withCopies(3);
        Check.refuses("below", Check.ARGUMENT, () -> x.toggleSite(-1));
        Check.refuses("above", Check.ARGUMENT, () -> x.toggleSite(4));
        Check.answers("all copies are there", 0b0111, () -> x.sites(0));
        x.deposit(0, 5, 1);
        Check.answers("site 3 is open", 0b1000, () -> x.sites(1));
    }

    @Holds(in = "Terms", says = "A call that throws an exception changes nothing.")
    static void aRefusedAuditLeavesTheTurn() {
        Fixityhall x = Keepers.withCopies(3);
        x.audit(1);
        x.damage(1, 0, 1);
        Check.refuses("steps", Check.ARGUMENT, () -> x.audit(101));
        Check.answers("site 1 is not repaired yet", 2, () -> x.sound(0));
        Check.answers("its turn is next", 1, () -> x.audit(1));
    }

    @Holds(in = "Terms", says = "A call that throws an exception changes nothing.")
    static void anAuditRefusedWithoutCopiesLeavesTheTurn() {
        Fixityhall x = Keepers.withCopies(3);
        x.audit(2);
        for (int site = 0; site < 4; site++) {
            x.toggleSite(site);
        }
        Check.refuses("no copies", Check.STATE, () -> x.audit(100));
        for (int site = 0; site < 4; site++) {
            x.toggleSite(site);
        }
        x.revise(0, 4000, false);
        x.damage(0, 1, 1);
        Check.answers("unit 1 at site 0 is next", 1, () -> x.audit(1));
    }
}
