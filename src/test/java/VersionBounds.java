/** The edges of objects and versions: promises 6 to 13, and what the terms say of contents, units and reading. */
final class VersionBounds {
    private static final int LEAST = Integer.MIN_VALUE;
    private static final int GREATEST = Integer.MAX_VALUE;
    private static final int[] BELOW_0 = {-1, LEAST};
    private static final int[] ABOVE_CONTENTS = {1000000, GREATEST};
    private static final int[] NO_FORMAT_OF_3 = {-1, 3, 8, LEAST, GREATEST};
    private static final int[] NO_OBJECT_OF_3 = {-1, 3, 10, 32, LEAST, GREATEST};
    private static final int[] NO_VERSION_OF_3 = {-1, 3, 10, 32, LEAST, GREATEST};

    private VersionBounds() {
    }

    private static void damageAll(Fixityhall x, int unit, int change) {
        int set = x.sites(unit);
        for (int site = 0; site < 4; site++) {
            if ((set >> site & 1) != 0) {
                x.damage(site, unit, change);
            }
        }
    }

    // ---- promise 6: deposit

    @Holds(in = "Promise 6", says = "Deposits an object with one version, stored whole.")
    static void depositMakesOneVersionStoredWhole() {
        Fixityhall x = Keepers.oneFormat();
        x.deposit(0, 5, 1);
        Check.answers("version 0 alone", 1, () -> x.versions(0));
        Check.answers("one unit", 1, x::units);
        x.revise(0, 5, false);
        Check.answers("a whole one of the same content has this unit", 0, () -> x.unitOf(0, 1));
    }

    @Holds(in = "Promise 6", says = "`format`: a format")
    static void depositTakesTheFirstAndTheLastFormat() {
        Fixityhall x = Keepers.allFormats();
        Check.answers("the first one", 0, () -> x.deposit(0, 1, 1));
        Check.answers("the last one", 1, () -> x.deposit(7, 2, 1));
        Check.answers("only object 1 is of the last one", 0b10, () -> x.atRisk(70));
    }

    @Holds(in = "Promise 6", says = "`content`: 0 to 999999")
    static void depositTakesTheContents0And999999() {
        Fixityhall x = Keepers.oneFormat();
        Check.answers("0", 0, () -> x.deposit(0, 0, 1));
        Check.answers("999999", 1, () -> x.deposit(0, 999999, 1));
        Check.answers("it reads 0", 0, () -> x.read(0, 0));
        Check.answers("it reads 999999", 999999, () -> x.read(1, 0));
    }

    @Holds(in = "Promise 6", says = "`copies`: number of copies wanted, 1 to 3")
    static void depositTakes1To3Copies() {
        Fixityhall x = Keepers.oneFormat();
        for (int i = 1; i <= 3; i++) {
            int copies = i;
            x.deposit(0, copies, copies);
            Check.answers("copies of unit " + (copies - 1), copies, () -> Integer.bitCount(x.sites(copies - 1)));
        }
    }

    @Holds(in = "Promise 6", says = "Returns number of the object.")
    static void depositNumbersFrom0To9AlsoIfUnitsAreShared() {
        Fixityhall x = Keepers.oneFormat();
        for (int i = 0; i < 10; i++) {
            Check.answers("object", i, () -> x.deposit(0, 5, 1));
        }
        Check.answers("of one unit", 1, x::units);
    }

    @Holds(in = "Promise 6", says = "Throws `IllegalArgumentException` if content or copies is out of range")
    static void depositRefusesContentsBelow0() {
        Twin.refusesEach("content", Check.ARGUMENT, Keepers::busy, BELOW_0, (x, wrong) -> x.deposit(0, wrong, 1));
    }

    @Holds(in = "Promise 6", says = "Throws `IllegalArgumentException` if content or copies is out of range")
    static void depositRefusesContentsAbove999999() {
        Twin.refusesEach("content", Check.ARGUMENT, Keepers::busy, ABOVE_CONTENTS, (x, wrong) -> x.deposit(0, wrong, 1));
    }

    @Holds(in = "Promise 6", says = "Throws `IllegalArgumentException` if content or copies is out of range")
    static void depositRefusesCopiesBelow1() {
        int[] below = {0, -1, LEAST};
        Twin.refusesEach("copies", Check.ARGUMENT, Keepers::busy, below, (x, wrong) -> x.deposit(0, 5, wrong));
    }

    @Holds(in = "Promise 6", says = "Throws `IllegalArgumentException` if content or copies is out of range")
    static void depositRefusesCopiesAbove3() {
        int[] above = {4, GREATEST};
        Twin.refusesEach("copies", Check.ARGUMENT, Keepers::busy, above, (x, wrong) -> x.deposit(0, 5, wrong));
    }

    @Holds(in = "Promise 6", says = "Throws `IndexOutOfBoundsException` if there is no such format")
    static void depositRefusesFormatsThatAreNotThere() {
        Twin.refusesEach("format", Check.INDEX, Keepers::busy, NO_FORMAT_OF_3, (x, wrong) -> x.deposit(wrong, 5, 1));
        Twin.refuses("a ninth one of 8", Check.INDEX, Keepers::allFormats, x -> x.deposit(8, 5, 1));
    }

    @Holds(in = "Promise 6", says = "Throws `IllegalStateException` if there are 10 objects")
    static void depositTakesATenthObject() {
        Check.answers("with 9 objects", 9, () -> Keepers.withObjects(9).deposit(0, 5, 1));
    }

    @Holds(in = "Promise 6", says = "Throws `IllegalStateException` if there are 10 objects")
    static void depositRefusesAnEleventhObject() {
        Twin.refuses("of a new content", Check.STATE, Keepers::allObjects, x -> x.deposit(0, 4711, 1));
        Twin.refuses("that would share a unit and want more", Check.STATE, Keepers::allObjects, x -> x.deposit(0, 5, 3));
    }

    // ---- promise 7: revise

    @Holds(in = "Promise 7", says = "Adds a version of an object, of the format of its latest one that is there.")
    static void reviseTakesTheFormatOfTheLatestVersionThatIsThere() {
        Fixityhall x = Keepers.withVersions(1);
        x.convert(0, 1);
        x.revise(0, 7, false);
        Check.answers("format 1, as version 1", 1, () -> x.atRisk(10));
        x.purge(0, 1);
        x.purge(0, 2);
        x.revise(0, 8, true);
        Check.answers("format 0, as version 0", 0, () -> x.atRisk(10));
    }

    @Holds(in = "Promise 7", says = "`object`: an object")
    static void reviseTakesTheFirstAndTheLastObject() {
        Fixityhall x = Keepers.allObjects();
        Check.answers("the first one", 1, () -> x.revise(0, 50, true));
        Check.answers("the last one", 1, () -> x.revise(9, 50, true));
        Check.answers("the first one reads", 50, () -> x.read(0, 1));
        Check.answers("the last one reads", 50, () -> x.read(9, 1));
    }

    @Holds(in = "Promise 7", says = "`content`: 0 to 999999")
    static void reviseTakesTheContents0And999999() {
        int[] contents = {0, 999999, 0, 999999, 0};
        for (int kind = 0; kind < 2; kind++) {
            boolean isDifference = kind == 1;
            Fixityhall x = Keepers.withVersions(1);
            for (int i = 0; i < contents.length; i++) {
                int version = i + 1;
                x.revise(0, contents[i], isDifference);
                Check.answers("version " + version, contents[i], () -> x.read(0, version));
            }
        }
    }

    @Holds(in = "Promise 7", says = "whether it is stored as a difference, with the latest version that is there as its base")
    static void aDifferenceIsFromTheLatestVersionThatIsThere() {
        Fixityhall x = Keepers.withVersions(3);
        x.purge(0, 2);
        x.revise(0, 210, true);
        Check.answers("it reads", 210, () -> x.read(0, 3));
        damageAll(x, 1, 97);
        Check.answers("from version 1, of unit 1", 210 + 97, () -> x.read(0, 3));
        damageAll(x, 0, 1);
        Check.answers("not from version 0", 210 + 97, () -> x.read(0, 3));
    }

    @Holds(in = "Promise 7", says = "whether it is stored as a difference, with the latest version that is there as its base")
    static void aDifferenceOfTheSameContentIsADifferenceAllTheSame() {
        Fixityhall x = Keepers.withVersions(1);
        x.revise(0, 100, true);
        Check.answers("it has a unit of its own", 1, () -> x.unitOf(0, 1));
        Check.answers("it reads", 100, () -> x.read(0, 1));
        damageAll(x, 0, 1);
        Check.refuses("it needs its base", Check.STATE, () -> x.read(0, 1));
    }

    @Holds(in = "Promise 7", says = "otherwise whole")
    static void aWholeVersionHasNoBase() {
        Fixityhall x = Keepers.withVersions(1);
        x.revise(0, 101, false);
        damageAll(x, 0, 1);
        Check.answers("it reads", 101, () -> x.read(0, 1));
        Check.answers("the first one is not needed", 1, () -> x.purge(0, 0));
    }

    @Holds(in = "Promise 7", says = "Returns number of the version.")
    static void reviseNumbersFrom1To9() {
        Fixityhall x = Keepers.withVersions(1);
        for (int i = 1; i < 10; i++) {
            int content = i;
            Check.answers("version", i, () -> x.revise(0, content, content % 2 == 0));
        }
    }

    @Holds(in = "Promise 7", says = "Returns number of the version.")
    static void revisePassesThePurgedNumbers() {
        Fixityhall x = Keepers.withVersions(3);
        x.purge(0, 2);
        x.purge(0, 1);
        Check.answers("behind 2, though that is purged", 3, () -> x.revise(0, 5, false));
    }

    @Holds(in = "Promise 7", says = "Throws `IllegalArgumentException` if content is out of range")
    static void reviseRefusesContentsBelow0() {
        Twin.refusesEach("whole", Check.ARGUMENT, Keepers::busy, BELOW_0, (x, wrong) -> x.revise(0, wrong, false));
        Twin.refusesEach("difference", Check.ARGUMENT, Keepers::busy, BELOW_0, (x, wrong) -> x.revise(0, wrong, true));
    }

    @Holds(in = "Promise 7", says = "Throws `IllegalArgumentException` if content is out of range")
    static void reviseRefusesContentsAbove999999() {
        Twin.refusesEach("whole", Check.ARGUMENT, Keepers::busy, ABOVE_CONTENTS,
            (x, wrong) -> x.revise(0, wrong, false));
        Twin.refusesEach("difference", Check.ARGUMENT, Keepers::busy, ABOVE_CONTENTS,
            (x, wrong) -> x.revise(0, wrong, true));
    }

    @Holds(in = "Promise 7", says = "Throws `IndexOutOfBoundsException` if there is no such object")
    static void reviseRefusesObjectsThatAreNotThere() {
        Twin.refusesEach("object", Check.INDEX, Keepers::busy, NO_OBJECT_OF_3, (x, wrong) -> x.revise(wrong, 5, true));
        Twin.refuses("an eleventh one of 10", Check.INDEX, Keepers::allObjects, x -> x.revise(10, 5, false));
    }

    @Holds(in = "Promise 7", says = "Throws `IllegalStateException` if the object has had 10 versions")
    static void reviseTakesATenthVersion() {
        Check.answers("whole", 9, () -> Keepers.withVersions(9).revise(0, 5, false));
        Check.answers("difference", 9, () -> Keepers.withVersions(9).revise(0, 5, true));
    }

    @Holds(in = "Promise 7", says = "Throws `IllegalStateException` if the object has had 10 versions")
    static void reviseRefusesAnEleventhVersion() {
        Twin.refuses("whole", Check.STATE, Keepers::allVersions, x -> x.revise(0, 5, false));
        Twin.refuses("difference", Check.STATE, Keepers::allVersions, x -> x.revise(0, 5, true));
        Twin.refuses("of a unit that is there", Check.STATE, Keepers::allVersions, x -> x.revise(0, 100, false));
    }

    @Holds(in = "Promise 7", says = "Throws `IllegalStateException` if the object has had 10 versions")
    static void reviseCountsPurgedVersionsAsHad() {
        Twin.refuses("after purges", Check.STATE, VersionBounds::tenVersionsOfWhichOneIsThere,
            x -> x.revise(0, 5, false));
    }

    private static Fixityhall tenVersionsOfWhichOneIsThere() {
        Fixityhall x = Keepers.allVersions();
        for (int version = 0; version < 10; version++) {
            if (version != 4) {
                x.purge(0, version);
            }
        }
        return x;
    }

    // ---- promise 8: convert

    @Holds(in = "Promise 8", says = "Converts the latest version of an object that is there")
    static void convertReadsTheLatestVersionThatIsThere() {
        Fixityhall x = Keepers.withVersions(3);
        x.purge(0, 2);
        x.convert(0, 1);
        Check.answers("from version 1, of content 200", 200005, () -> x.read(0, 3));
    }

    @Holds(in = "Promise 8", says = "a version of another format is added, stored whole.")
    static void convertStoresWhole() {
        Fixityhall x = Keepers.withVersions(1);
        x.revise(0, 120, true);
        x.convert(0, 1);
        x.deposit(0, 120005, 1);
        Check.answers("a deposit of that content shares it", x.unitOf(0, 2), () -> x.unitOf(1, 0));
        damageAll(x, 0, 1);
        damageAll(x, 1, 1);
        Check.answers("it needs nothing else", 120005, () -> x.read(0, 2));
    }

    @Holds(in = "Promise 8", says = "a version of another format is added, stored whole.")
    static void convertAddsAVersionOfThatFormat() {
        Fixityhall x = Keepers.withVersions(1);
        Check.answers("before", 0, () -> x.atRisk(10));
        x.convert(0, 1);
        Check.answers("then", 1, () -> x.atRisk(10));
        Check.answers("both are there", 0b11, () -> x.versions(0));
    }

    /** The content after a conversion of what reads as the content and the change by damage together. */
    private static void converts(int content, int change, int loss, int due) {
        Fixityhall x = Keepers.withFormats(2);
        x.addConversion(0, 1, loss);
        x.deposit(0, content, 1);
        for (int left = change; left != 0; ) {
            int step = Math.max(-970, Math.min(970, left));
            x.damage(0, 0, step);
            left -= step;
        }
        Check.answers("r", content + change, () -> x.read(0, 0));
        x.convert(0, 1);
        Check.answers("content for r " + (content + change) + " and loss " + loss, due, () -> x.read(0, 1));
    }

    @Holds(in = "Promise 8", says = "its content is 1000 * (the remainder of r by 1000")
    static void convertTakesTheRemainderBy1000() {
        converts(0, 0, 7, 7);
        converts(1, 0, 7, 1007);
        converts(999, 0, 7, 999007);
        converts(1000, 0, 7, 7);
        converts(1001, 0, 7, 1007);
        converts(999000, 0, 7, 7);
        converts(999999, 0, 7, 999007);
    }

    @Holds(in = "Promise 8", says = "which is 0 to 999 also if r is below 0)")
    static void convertTakesTheRemainderBelow0() {
        converts(96, -97, 7, 999007);
        converts(95, -97, 7, 998007);
        converts(68, -1067, 7, 1007);
        converts(67, -1067, 7, 7);
        converts(66, -1067, 7, 999007);
    }

    @Holds(in = "Promise 8", says = "With r for what that version reads")
    static void convertTakesWhatIsReadAbove999999() {
        converts(999999, 97, 7, 96007);
        converts(999903, 97, 7, 7);
        converts(100, 97, 7, 197007);
    }

    @Holds(in = "Promise 8", says = "With r for what that version reads")
    static void convertTakesTheSumOfADifferenceAndItsBases() {
        Fixityhall x = Keepers.withVersions(1);
        x.revise(0, 120, true);
        damageAll(x, 0, -97);
        damageAll(x, 1, -97);
        Check.answers("r", 120 - 194, () -> x.read(0, 1));
        x.convert(0, 1);
        Check.answers("content", 926005, () -> x.read(0, 2));
    }

    @Holds(in = "Promise 8", says = "the remainder by 1000 of the sum of losses of the best way.")
    static void convertAddsALossOf0() {
        converts(42, 0, 0, 42000);
    }

    @Holds(in = "Promise 8", says = "the remainder by 1000 of the sum of losses of the best way.")
    static void convertAddsTheGreatestSumOfLosses() {
        Fixityhall x = Keepers.allFormats();
        for (int i = 0; i < 7; i++) {
            x.addConversion(i, i + 1, 100);
        }
        x.deposit(0, 999999, 1);
        x.convert(0, 7);
        Check.answers("seven conversions of loss 100", 999700, () -> x.read(0, 1));
    }

    @Holds(in = "Promise 8", says = "the remainder by 1000 of the sum of losses of the best way.")
    static void convertTakesTheBestWayNotTheStraightOne() {
        Fixityhall x = Keepers.withFormats(3);
        x.addConversion(0, 2, 100);
        x.addConversion(0, 1, 40);
        x.addConversion(1, 2, 59);
        x.deposit(0, 1, 1);
        x.convert(0, 2);
        Check.answers("99 before 100", 1099, () -> x.read(0, 1));
    }

    @Holds(in = "Promise 8", says = "`object`: an object")
    static void convertTakesTheFirstAndTheLastObject() {
        Fixityhall x = Keepers.allObjects();
        x.addConversion(0, 1, 5);
        Check.answers("the first one", 1, () -> x.convert(0, 1));
        Check.answers("the last one", 1, () -> x.convert(9, 1));
        Check.answers("the last one reads", 9005, () -> x.read(9, 1));
    }

    @Holds(in = "Promise 8", says = "`format`: another format than that of its latest version")
    static void convertTakesTheFirstAndTheLastFormat() {
        Fixityhall x = Keepers.allFormats();
        x.addConversion(0, 7, 1);
        x.addConversion(7, 0, 2);
        x.deposit(0, 3, 1);
        Check.answers("to the last one", 1, () -> x.convert(0, 7));
        Check.answers("it reads", 3001, () -> x.read(0, 1));
        Check.answers("to the first one, which an earlier version has", 2, () -> x.convert(0, 0));
        Check.answers("it reads", 1002, () -> x.read(0, 2));
    }

    @Holds(in = "Promise 8", says = "Returns number of the version.")
    static void convertNumbersFrom1To9AndPassesPurgedNumbers() {
        Fixityhall x = Keepers.withVersions(1);
        x.addConversion(1, 0, 5);
        for (int i = 1; i < 10; i++) {
            int number = i;
            Check.answers("version", number, () -> x.convert(0, number % 2));
            x.purge(0, number - 1);
        }
    }

    @Holds(in = "Promise 8", says = "Throws `IndexOutOfBoundsException` if there is no such object or format")
    static void convertRefusesObjectsThatAreNotThere() {
        Twin.refusesEach("object", Check.INDEX, Keepers::busy, NO_OBJECT_OF_3, (x, wrong) -> x.convert(wrong, 2));
        Twin.refuses("an eleventh one of 10", Check.INDEX, Keepers::allObjects, x -> x.convert(10, 1));
    }

    @Holds(in = "Promise 8", says = "Throws `IndexOutOfBoundsException` if there is no such object or format")
    static void convertRefusesFormatsThatAreNotThere() {
        Twin.refusesEach("format", Check.INDEX, Keepers::busy, NO_FORMAT_OF_3, (x, wrong) -> x.convert(0, wrong));
    }

    @Holds(in = "Promise 8", says = "Throws `IllegalStateException` if the format is that of its latest version")
    static void convertRefusesTheFormatOfTheLatestVersion() {
        Twin.refuses("at first", Check.STATE, Keepers::busy, x -> x.convert(0, 0));
        Twin.refuses("with a ring of conversions", Check.STATE, VersionBounds::twoFormatsInARing, x -> x.convert(0, 1));
    }

    @Holds(in = "Promise 8", says = "Throws `IllegalStateException` if the format is that of its latest version")
    static void convertTakesTheFormatOfALaterVersionThatIsPurged() {
        Fixityhall x = twoFormatsInARing();
        x.purge(0, 1);
        Check.answers("version 0 is the latest one", 2, () -> x.convert(0, 1));
    }

    private static Fixityhall twoFormatsInARing() {
        Fixityhall x = Keepers.withVersions(1);
        x.addConversion(1, 0, 5);
        x.convert(0, 1);
        return x;
    }

    @Holds(in = "Promise 8", says = "there is no way to it")
    static void convertRefusesAFormatWithoutAWay() {
        Twin.refuses("no conversion", Check.STATE, Keepers::allObjects, x -> x.convert(0, 1));
        Twin.refuses("the opposite one only", Check.STATE, VersionBounds::wayBackOnly, x -> x.convert(0, 1));
    }

    private static Fixityhall wayBackOnly() {
        Fixityhall x = Keepers.withObjects(1);
        x.addConversion(1, 0, 0);
        return x;
    }

    @Holds(in = "Promise 8", says = "the latest version cannot be read")
    static void convertRefusesALatestVersionWithoutSoundCopies() {
        Twin.refuses("damaged", Check.STATE, () -> damagedLatest(1), x -> x.convert(0, 1));
        Check.answers("damaged unseen", 3, () -> damagedLatest(97).convert(0, 1));
    }

    private static Fixityhall damagedLatest(int change) {
        Fixityhall x = Keepers.withVersions(3);
        damageAll(x, 2, change);
        return x;
    }

    @Holds(in = "Promise 8", says = "the latest version cannot be read")
    static void convertRefusesALatestVersionWithoutCopies() {
        Twin.refuses("its site is closed", Check.STATE, VersionBounds::latestWithoutCopies, x -> x.convert(0, 1));
    }

    private static Fixityhall latestWithoutCopies() {
        Fixityhall x = Keepers.withVersions(3);
        x.toggleSite(2);
        return x;
    }

    @Holds(in = "Promise 8", says = "the latest version cannot be read")
    static void convertRefusesALatestVersionWhoseBaseCannotBeRead() {
        Twin.refuses("its base is damaged", Check.STATE, () -> differenceOnDamaged(true), x -> x.convert(0, 1));
        Check.answers("an earlier one is damaged", 2, () -> differenceOnDamaged(false).convert(0, 1));
    }

    private static Fixityhall differenceOnDamaged(boolean isDifference) {
        Fixityhall x = Keepers.withVersions(1);
        x.revise(0, 120, isDifference);
        damageAll(x, 0, 1);
        return x;
    }

    @Holds(in = "Promise 8", says = "or the object has had 10 versions")
    static void convertTakesATenthVersion() {
        Check.answers("with 9 versions", 9, () -> Keepers.withVersions(9).convert(0, 1));
    }

    @Holds(in = "Promise 8", says = "or the object has had 10 versions")
    static void convertRefusesAnEleventhVersion() {
        Twin.refuses("with 10 versions", Check.STATE, Keepers::allVersions, x -> x.convert(0, 1));
        Twin.refuses("of which nine are purged", Check.STATE, VersionBounds::tenVersionsOfWhichOneIsThere,
            x -> x.convert(0, 1));
    }

    // ---- promise 9: purge

    @Holds(in = "Promise 9", says = "Purges a version.")
    static void purgeTakesOneVersionAway() {
        Fixityhall x = Keepers.withVersions(3);
        x.purge(0, 1);
        Check.answers("the others are there", 0b101, () -> x.versions(0));
        Check.refuses("it has no unit", Check.INDEX, () -> x.unitOf(0, 1));
        Check.refuses("it is not read", Check.INDEX, () -> x.read(0, 1));
        Check.answers("the one before reads", 100, () -> x.read(0, 0));
        Check.answers("the one behind reads", 300, () -> x.read(0, 2));
    }

    @Holds(in = "Promise 9", says = "What other versions need stays.")
    static void purgeLeavesTheBasesOfOtherVersions() {
        Fixityhall x = Keepers.withVersions(1);
        x.revise(0, 120, true);
        x.revise(0, 150, true);
        Check.answers("the middle one", 0, () -> x.purge(0, 1));
        Check.answers("the first one", 0, () -> x.purge(0, 0));
        Check.answers("the last one reads", 150, () -> x.read(0, 2));
        Check.answers("three units", 3, x::units);
    }

    @Holds(in = "Promise 9", says = "What other versions need stays.")
    static void purgeLeavesWhatAnotherObjectNeeds() {
        Fixityhall x = Keepers.withVersions(2);
        x.deposit(0, 200, 1);
        Check.answers("shared with object 1", 0, () -> x.purge(0, 1));
        Check.answers("object 1 reads", 200, () -> x.read(1, 0));
    }

    @Holds(in = "Promise 9", says = "`object`: an object")
    static void purgeTakesTheFirstAndTheLastObject() {
        Fixityhall x = Keepers.allObjects();
        x.revise(0, 50, false);
        x.revise(9, 60, false);
        Check.answers("the first one", 1, () -> x.purge(0, 0));
        Check.answers("the last one", 1, () -> x.purge(9, 0));
        Check.answers("the first one has", 0b10, () -> x.versions(0));
        Check.answers("the last one has", 0b10, () -> x.versions(9));
    }

    @Holds(in = "Promise 9", says = "`version`: a version of it that is there")
    static void purgeTakesTheFirstAndTheLastVersion() {
        Fixityhall x = Keepers.allVersions();
        Check.answers("the first one", 1, () -> x.purge(0, 0));
        Check.answers("the last one", 1, () -> x.purge(0, 9));
        Check.answers("eight are there", 0b0111111110, () -> x.versions(0));
    }

    @Holds(in = "Promise 9", says = "Returns how many units are removed.")
    static void purgeCountsNoneOneAndNine() {
        Fixityhall x = Keepers.withVersions(1);
        for (int i = 1; i < 9; i++) {
            x.revise(0, 100 + i * i, true);
        }
        x.revise(0, 100, false);
        for (int i = 0; i < 8; i++) {
            int base = i;
            Check.answers("none with version " + base, 0, () -> x.purge(0, base));
        }
        Check.answers("its difference and seven others, but the first unit is shared", 8, () -> x.purge(0, 8));
        Fixityhall y = Keepers.withVersions(1);
        for (int i = 1; i < 9; i++) {
            y.revise(0, 100 + i * i, true);
        }
        y.revise(0, 7, false);
        for (int i = 0; i < 8; i++) {
            y.purge(0, i);
        }
        Check.answers("nine", 9, () -> y.purge(0, 8));
        Check.answers("one is left", 1, y::units);
        Check.answers("one", 1, () -> Keepers.withVersions(2).purge(0, 1));
    }

    @Holds(in = "Promise 9", says = "Returns how many units are removed.")
    static void purgeCountsAUnitOnceThatAVersionNeedsTwice() {
        Fixityhall x = Keepers.withVersions(1);
        x.revise(0, 103, true);
        x.revise(0, 106, true);
        x.revise(0, 5, false);
        x.purge(0, 0);
        x.purge(0, 1);
        Check.answers("unit 0 and the one difference", 2, () -> x.purge(0, 2));
        Check.answers("one is left", 1, x::units);
    }

    @Holds(in = "Promise 9", says = "Throws `IndexOutOfBoundsException` if there is no such object or version")
    static void purgeRefusesObjectsThatAreNotThere() {
        Twin.refusesEach("object", Check.INDEX, Keepers::busy, NO_OBJECT_OF_3, (x, wrong) -> x.purge(wrong, 0));
    }

    @Holds(in = "Promise 9", says = "Throws `IndexOutOfBoundsException` if there is no such object or version")
    static void purgeRefusesVersionsThatAreNotThere() {
        Twin.refusesEach("version", Check.INDEX, Keepers::busy, NO_VERSION_OF_3, (x, wrong) -> x.purge(0, wrong));
        Twin.refuses("purged before", Check.INDEX, Keepers::busy, x -> x.purge(0, 1));
        Twin.refuses("an eleventh one of 10", Check.INDEX, Keepers::allVersions, x -> x.purge(0, 10));
    }

    @Holds(in = "Promise 9", says = "Throws `IllegalStateException` if it is the only version of the object that is there")
    static void purgeRefusesTheOnlyVersion() {
        Twin.refuses("the only one that it has had", Check.STATE, Keepers::busy, x -> x.purge(1, 0));
    }

    @Holds(in = "Promise 9", says = "Throws `IllegalStateException` if it is the only version of the object that is there")
    static void purgeRefusesTheOnlyVersionThatIsLeft() {
        Twin.refuses("of ten", Check.STATE, VersionBounds::tenVersionsOfWhichOneIsThere, x -> x.purge(0, 4));
    }

    // ---- promise 10: versions

    @Holds(in = "Promise 10", says = "Returns the versions of an object that are there.")
    static void versionsLeavesOutPurgedOnesAndThoseOfOtherObjects() {
        Fixityhall x = Keepers.busy();
        Check.answers("object 0", 0b101, () -> x.versions(0));
        Check.answers("object 1", 0b1, () -> x.versions(1));
    }

    @Holds(in = "Promise 10", says = "`object`: an object")
    static void versionsTakesTheFirstAndTheLastObject() {
        Fixityhall x = Keepers.allObjects();
        x.revise(9, 5, false);
        Check.answers("the first one", 0b1, () -> x.versions(0));
        Check.answers("the last one", 0b11, () -> x.versions(9));
    }

    @Holds(in = "Promise 10", says = "Returns the versions, as a set: bit v for version v.")
    static void versionsSetsBits0To9() {
        Check.answers("one", 1, () -> Keepers.withVersions(1).versions(0));
        Check.answers("ten", 1023, () -> Keepers.allVersions().versions(0));
        Fixityhall x = Keepers.allVersions();
        for (int version = 0; version < 9; version++) {
            x.purge(0, version);
        }
        Check.answers("the last one alone", 512, () -> x.versions(0));
    }

    @Holds(in = "Promise 10", says = "Throws `IndexOutOfBoundsException` if there is no such object")
    static void versionsRefusesObjectsThatAreNotThere() {
        Twin.refusesEach("object", Check.INDEX, Keepers::busy, NO_OBJECT_OF_3, Fixityhall::versions);
        Twin.refuses("an eleventh one of 10", Check.INDEX, Keepers::allObjects, x -> x.versions(10));
    }

    // ---- promise 11: unitOf

    @Holds(in = "Promise 11", says = "Returns the unit of a version.")
    static void unitOfIsTheVersionsOwnUnitNotThatOfItsBase() {
        Fixityhall x = Keepers.busy();
        Check.answers("a whole one", 0, () -> x.unitOf(0, 0));
        Check.answers("a difference", 3, () -> x.unitOf(0, 2));
        Check.answers("a shared one", 0, () -> x.unitOf(1, 0));
    }

    @Holds(in = "Promise 11", says = "`object`: an object")
    static void unitOfTakesTheFirstAndTheLastObject() {
        Fixityhall x = Keepers.allObjects();
        Check.answers("the first one", 0, () -> x.unitOf(0, 0));
        Check.answers("the last one", 9, () -> x.unitOf(9, 0));
    }

    @Holds(in = "Promise 11", says = "`version`: a version of it that is there")
    static void unitOfTakesTheFirstAndTheLastVersion() {
        Fixityhall x = Keepers.allVersions();
        Check.answers("the first one", 0, () -> x.unitOf(0, 0));
        Check.answers("the last one", 9, () -> x.unitOf(0, 9));
    }

    @Holds(in = "Promise 11", says = "Returns number of the unit.")
    static void unitOfReachesTheHundredthUnit() {
        Fixityhall x = Keepers.allUnits();
        Check.answers("the first one", 0, () -> x.unitOf(0, 0));
        Check.answers("the last one", 99, () -> x.unitOf(9, 9));
    }

    @Holds(in = "Promise 11", says = "Throws `IndexOutOfBoundsException` if there is no such object or version")
    static void unitOfRefusesObjectsThatAreNotThere() {
        Twin.refusesEach("object", Check.INDEX, Keepers::busy, NO_OBJECT_OF_3, (x, wrong) -> x.unitOf(wrong, 0));
    }

    @Holds(in = "Promise 11", says = "Throws `IndexOutOfBoundsException` if there is no such object or version")
    static void unitOfRefusesVersionsThatAreNotThere() {
        Twin.refusesEach("version", Check.INDEX, Keepers::busy, NO_VERSION_OF_3, (x, wrong) -> x.unitOf(0, wrong));
        Twin.refuses("purged, though its unit is needed", Check.INDEX, Keepers::busy, x -> x.unitOf(0, 1));
        Twin.refuses("an eleventh one of 10", Check.INDEX, Keepers::allVersions, x -> x.unitOf(0, 10));
    }

    // ---- promise 12: read

    @Holds(in = "Promise 12", says = "Reads a version.")
    static void readReadsThatVersionOnly() {
        Fixityhall x = Keepers.withVersions(3);
        damageAll(x, 1, 97);
        Check.answers("version 0", 100, () -> x.read(0, 0));
        Check.answers("version 1", 297, () -> x.read(0, 1));
        Check.answers("version 2", 300, () -> x.read(0, 2));
    }

    @Holds(in = "Promise 12", says = "`object`: an object")
    static void readTakesTheFirstAndTheLastObject() {
        Fixityhall x = Keepers.allObjects();
        Check.answers("the first one", 0, () -> x.read(0, 0));
        Check.answers("the last one", 9, () -> x.read(9, 0));
    }

    @Holds(in = "Promise 12", says = "`version`: a version of it that is there")
    static void readTakesTheFirstAndTheLastVersion() {
        Fixityhall x = Keepers.allVersions();
        Check.answers("the first one", 100, () -> x.read(0, 0));
        Check.answers("the last one", 1000, () -> x.read(0, 9));
    }

    @Holds(in = "Promise 12", says = "Returns the sum of the good values.")
    static void readGoesBelow0AndAbove999999() {
        Fixityhall x = Keepers.oneFormat();
        x.deposit(0, 0, 1);
        x.deposit(0, 999999, 1);
        x.revise(0, 999999, true);
        x.revise(1, 0, true);
        damageAll(x, 0, -97);
        damageAll(x, 1, 970);
        Check.answers("below 0", -97, () -> x.read(0, 0));
        Check.answers("above 999999", 1000969, () -> x.read(1, 0));
        Check.answers("one less", 999902, () -> x.read(0, 1));
        Check.answers("what is left", 970, () -> x.read(1, 1));
        damageAll(x, 2, 970);
        Check.answers("the sum above 999999", 1000872, () -> x.read(0, 1));
        damageAll(x, 3, -1000 + 30);
        damageAll(x, 3, -97);
        Check.answers("the sum below 0", -97, () -> x.read(1, 1));
    }

    @Holds(in = "Promise 12", says = "Throws `IndexOutOfBoundsException` if there is no such object or version")
    static void readRefusesObjectsThatAreNotThere() {
        Twin.refusesEach("object", Check.INDEX, Keepers::busy, NO_OBJECT_OF_3, (x, wrong) -> x.read(wrong, 0));
    }

    @Holds(in = "Promise 12", says = "Throws `IndexOutOfBoundsException` if there is no such object or version")
    static void readRefusesVersionsThatAreNotThere() {
        Twin.refusesEach("version", Check.INDEX, Keepers::busy, NO_VERSION_OF_3, (x, wrong) -> x.read(0, wrong));
        Twin.refuses("purged, though its unit is needed", Check.INDEX, Keepers::busy, x -> x.read(0, 1));
        Twin.refuses("an eleventh one of 10", Check.INDEX, Keepers::allVersions, x -> x.read(0, 10));
    }

    @Holds(in = "Promise 12", says = "Throws `IllegalStateException` if it cannot be read")
    static void readRefusesAVersionWithoutSoundCopies() {
        Twin.refuses("damaged", Check.STATE, () -> damagedLatest(1), x -> x.read(0, 2));
    }

    @Holds(in = "Promise 12", says = "Throws `IllegalStateException` if it cannot be read")
    static void readRefusesAVersionWithoutCopies() {
        Twin.refuses("its site is closed", Check.STATE, VersionBounds::latestWithoutCopies, x -> x.read(0, 2));
    }

    @Holds(in = "Promise 12", says = "Throws `IllegalStateException` if it cannot be read")
    static void readRefusesADifferenceWhoseBaseCannotBeRead() {
        Twin.refuses("its base is damaged", Check.STATE, () -> differenceOnDamaged(true), x -> x.read(0, 1));
    }

    // ---- promise 13: atRisk

    @Holds(in = "Promise 13", says = "Returns the objects whose latest version that is there has a format of some risk.")
    static void atRiskGoesByTheLatestVersionThatIsThere() {
        Fixityhall x = Keepers.withVersions(1);
        x.convert(0, 1);
        Check.answers("the latest one", 1, () -> x.atRisk(10));
        x.purge(0, 0);
        Check.answers("the earlier one is purged", 1, () -> x.atRisk(10));
        Fixityhall y = Keepers.withVersions(1);
        y.convert(0, 1);
        y.purge(0, 1);
        Check.answers("the later one is purged", 0, () -> y.atRisk(10));
    }

    @Holds(in = "Promise 13", says = "`risk`: 0 to 100")
    static void atRiskTakesTheRisks0And100() {
        Fixityhall x = Keepers.withObjects(1);
        Check.answers("risk 0 at 0", 1, () -> x.atRisk(0));
        Check.answers("risk 0 at 1", 0, () -> x.atRisk(1));
        x.setRisk(0, 100);
        Check.answers("risk 100 at 100", 1, () -> x.atRisk(100));
        x.setRisk(0, 99);
        Check.answers("risk 99 at 100", 0, () -> x.atRisk(100));
    }

    @Holds(in = "Promise 13", says = "Returns the objects with that risk or a higher one")
    static void atRiskTakesThatRiskAndHigherOnes() {
        Fixityhall x = Keepers.withFormats(3);
        x.deposit(0, 1, 1);
        x.deposit(1, 1, 1);
        x.deposit(2, 1, 1);
        Check.answers("one lower", 0b110, () -> x.atRisk(9));
        Check.answers("that risk", 0b110, () -> x.atRisk(10));
        Check.answers("one higher", 0b100, () -> x.atRisk(11));
    }

    @Holds(in = "Promise 13", says = "as a set: bit o for object o.")
    static void atRiskSetsBits0To9() {
        Check.answers("no objects", 0, () -> Keepers.allFormats().atRisk(0));
        Check.answers("ten objects", 1023, () -> Keepers.allObjects().atRisk(0));
        Fixityhall x = Keepers.withObjects(9);
        x.deposit(1, 5, 1);
        Check.answers("the last object alone", 512, () -> x.atRisk(10));
        Check.answers("none", 0, () -> x.atRisk(11));
    }

    @Holds(in = "Promise 13", says = "Throws `IllegalArgumentException` if risk is out of range")
    static void atRiskRefusesRisksBelow0() {
        Twin.refusesEach("risk", Check.ARGUMENT, Keepers::busy, BELOW_0, Fixityhall::atRisk);
    }

    @Holds(in = "Promise 13", says = "Throws `IllegalArgumentException` if risk is out of range")
    static void atRiskRefusesRisksAbove100() {
        Twin.refusesEach("risk", Check.ARGUMENT, Keepers::busy, new int[] {101, GREATEST}, Fixityhall::atRisk);
    }

    // ---- terms: contents

    @Holds(in = "Terms", says = "A content is a number from 0 to 999999.")
    static void contentsAreReadAsTheyCameUpToTheirEnds() {
        for (int content : new int[] {0, 1, 999998, 999999}) {
            Fixityhall x = Keepers.oneFormat();
            x.deposit(0, content, 1);
            x.revise(0, 500, false);
            x.revise(0, content, false);
            Check.answers("deposited", content, () -> x.read(0, 0));
            Check.answers("revised", content, () -> x.read(0, 2));
            Check.answers("in one unit", 0, () -> x.unitOf(0, 2));
        }
    }

    @Holds(in = "Terms", says = "Formats are numbered from 0 in the order in which they are added")
    static void refusedCallsUseUpNoFormatNumber() {
        Fixityhall x = new Fixityhall();
        Check.answers("the first one", 0, () -> x.addFormat(1));
        Check.refuses("refused", Check.ARGUMENT, () -> x.addFormat(101));
        Check.answers("the second one", 1, () -> x.addFormat(2));
    }

    @Holds(in = "Terms", says = "and so are objects")
    static void refusedCallsUseUpNoObjectNumber() {
        Fixityhall x = Keepers.oneFormat();
        Check.answers("the first one", 0, () -> x.deposit(0, 1, 1));
        Check.refuses("refused", Check.INDEX, () -> x.deposit(1, 1, 1));
        Check.answers("the second one", 1, () -> x.deposit(0, 1, 1));
    }

    @Holds(in = "Terms", says = "the versions of an object")
    static void eachObjectsVersionsAreNumberedFrom0() {
        Fixityhall x = Keepers.withObjects(2);
        Check.answers("of object 0", 1, () -> x.revise(0, 50, false));
        Check.refuses("refused", Check.ARGUMENT, () -> x.revise(0, -1, false));
        Check.answers("of object 0", 2, () -> x.revise(0, 60, false));
        Check.answers("of object 1", 1, () -> x.revise(1, 70, false));
    }

    @Holds(in = "Terms", says = "and units.")
    static void unitsAreNumberedFrom0AsTheyAreMade() {
        Fixityhall x = Keepers.withObjects(2);
        x.revise(0, 1, false);
        Check.answers("shared", 1, () -> x.unitOf(0, 1));
        x.revise(0, 50, true);
        Check.answers("a difference is the next one", 2, () -> x.unitOf(0, 2));
        x.revise(1, 60, false);
        Check.answers("a whole one is the next one", 3, () -> x.unitOf(1, 1));
    }

    // ---- terms: units

    @Holds(in = "Terms", says = "of a whole one this is a content")
    static void wholeUnitsHaveTheValues0And999999() {
        Fixityhall x = Keepers.oneFormat();
        x.deposit(0, 0, 1);
        x.deposit(0, 999999, 1);
        Check.answers("two units", 2, x::units);
        Check.answers("0 is sound", 1, () -> x.sound(0));
        Check.answers("999999 is sound", 1, () -> x.sound(1));
    }

    @Holds(in = "Terms", says = "of a difference a number from -999999 to 999999.")
    static void differencesHaveTheValuesMinus999999And999999() {
        Fixityhall x = Keepers.oneFormat();
        x.deposit(0, 0, 1);
        x.revise(0, 999999, true);
        x.revise(0, 0, true);
        Check.answers("999999 is sound", 1, () -> x.sound(1));
        Check.answers("-999999 is sound", 1, () -> x.sound(2));
        Check.answers("0 + 999999", 999999, () -> x.read(0, 1));
        Check.answers("999999 - 999999", 0, () -> x.read(0, 2));
        x.revise(0, 999999, true);
        Check.answers("999999 is shared", 1, () -> x.unitOf(0, 3));
        x.revise(0, 0, true);
        Check.answers("-999999 is shared", 2, () -> x.unitOf(0, 4));
    }

    @Holds(in = "Terms", says = "of a difference a number from -999999 to 999999.")
    static void differencesHaveTheValue0() {
        Fixityhall x = Keepers.oneFormat();
        x.deposit(0, 0, 1);
        x.revise(0, 0, true);
        Check.answers("not the whole 0", 1, () -> x.unitOf(0, 1));
        x.revise(0, 0, true);
        Check.answers("shared", 1, () -> x.unitOf(0, 2));
        Check.answers("it reads", 0, () -> x.read(0, 2));
    }

    @Holds(in = "Terms", says = "A version has a unit.")
    static void eachOfAHundredVersionsHasAUnit() {
        Fixityhall x = Keepers.allUnits();
        for (int i = 0; i < 100; i++) {
            int number = i;
            Check.answers("version", number, () -> x.unitOf(number / 10, number % 10));
        }
    }

    @Holds(in = "Terms", says = "and its content is that of the base plus the value.")
    static void nineDifferencesInARowReadAsTheyCame() {
        int[] contents = {500000, 999999, 0, 1, 999998, 999998, 3, 0, 250000, 249999};
        Fixityhall x = Keepers.oneFormat();
        x.deposit(0, contents[0], 1);
        for (int i = 1; i < 10; i++) {
            x.revise(0, contents[i], true);
        }
        for (int i = 0; i < 10; i++) {
            int version = i;
            Check.answers("version " + version, contents[version], () -> x.read(0, version));
        }
    }

    @Holds(in = "Terms", says = "and its content is that of the base plus the value.")
    static void aDifferenceGoesByContentsNotByWhatDamageMadeOfThem() {
        Fixityhall x = Keepers.withVersions(1);
        damageAll(x, 0, 97);
        x.revise(0, 150, true);
        Check.answers("the damage is read too", 247, () -> x.read(0, 1));
        damageAll(x, 0, 1);
        x.revise(0, 150, true);
        Check.answers("it comes also if the base cannot be read", 0b111, () -> x.versions(0));
        damageAll(x, 0, -98);
        Check.answers("the difference of the contents was 0", 150, () -> x.read(0, 2));
    }

    @Holds(in = "Terms", says = "A version needs its unit, and if this is a difference, all that its base needs.")
    static void theLastOfNineDifferencesNeedsAllTenUnits() {
        Fixityhall x = Keepers.withVersions(1);
        for (int i = 1; i < 10; i++) {
            x.revise(0, 100 + i * i, true);
        }
        for (int i = 0; i < 9; i++) {
            int version = i;
            Check.answers("purge of version " + version, 0, () -> x.purge(0, version));
        }
        Check.answers("all are there", 10, x::units);
        Check.answers("it reads", 181, () -> x.read(0, 9));
    }

    @Holds(in = "Terms", says = "A version needs its unit, and if this is a difference, all that its base needs.")
    static void aDifferenceNeedsNothingBeforeTheWholeOneOnItsWay() {
        Fixityhall x = Keepers.withVersions(2);
        x.revise(0, 210, true);
        Check.answers("version 0 is not needed", 1, () -> x.purge(0, 0));
        Check.answers("version 1 is", 0, () -> x.purge(0, 1));
        Check.answers("it reads", 210, () -> x.read(0, 2));
    }

    @Holds(in = "Terms", says = "and there is one of this kind and value, it shares that")
    static void wholeUnitsAreSharedWhoeverComesToNeedThem() {
        Fixityhall x = Keepers.withVersions(1);
        x.deposit(0, 100, 1);
        Check.answers("by a deposit", 0, () -> x.unitOf(1, 0));
        x.revise(1, 100, false);
        Check.answers("by a revision", 0, () -> x.unitOf(1, 1));
        x.deposit(0, 100005, 1);
        x.convert(0, 1);
        Check.answers("by a conversion", 1, () -> x.unitOf(0, 1));
    }

    @Holds(in = "Terms", says = "and there is one of this kind and value, it shares that")
    static void differencesAreSharedOverBasesAndObjects() {
        Fixityhall x = Keepers.withObjects(2);
        x.revise(0, 7, true);
        x.revise(1, 8, true);
        Check.answers("by another object", 2, () -> x.unitOf(1, 1));
        x.revise(1, 15, true);
        Check.answers("by the version that has it as its base", 2, () -> x.unitOf(1, 2));
        Check.answers("it reads", 15, () -> x.read(1, 2));
    }

    @Holds(in = "Terms", says = "and there is one of this kind and value, it shares that")
    static void aUnitIsSharedThatOnlyADifferenceStillNeeds() {
        Fixityhall x = Keepers.withVersions(1);
        x.revise(0, 120, true);
        x.purge(0, 0);
        x.deposit(0, 100, 1);
        Check.answers("the base of version 1", 0, () -> x.unitOf(1, 0));
    }

    @Holds(in = "Terms", says = "otherwise a unit is made.")
    static void anotherKindOrValueIsAnotherUnit() {
        Fixityhall x = Keepers.withVersions(1);
        x.revise(0, 200, true);
        Check.answers("the difference 100, not the whole 100", 1, () -> x.unitOf(0, 1));
        x.revise(0, 100, true);
        Check.answers("the difference -100", 2, () -> x.unitOf(0, 2));
        x.revise(0, 101, false);
        Check.answers("the whole 101", 3, () -> x.unitOf(0, 3));
        x.revise(0, 99, false);
        Check.answers("the whole 99", 4, () -> x.unitOf(0, 4));
    }

    @Holds(in = "Terms", says = "A unit that no version needs any more is removed with all of its copies")
    static void aRemovedUnitIsGoneWithItsCopies() {
        Fixityhall x = Keepers.oneFormat();
        x.deposit(0, 1, 3);
        x.revise(0, 2, false);
        x.purge(0, 0);
        Check.answers("one unit", 1, x::units);
        Twin.refuses("sites", Check.INDEX, VersionBounds::firstUnitRemoved, y -> y.sites(0));
        Twin.refuses("sound", Check.INDEX, VersionBounds::firstUnitRemoved, y -> y.sound(0));
        Twin.refuses("damage", Check.INDEX, VersionBounds::firstUnitRemoved, y -> y.damage(0, 0, 1) ? 1 : 0);
        Check.answers("two copies were left at site 0, one is", 1, () -> x.toggleSite(0));
    }

    private static Fixityhall firstUnitRemoved() {
        Fixityhall x = Keepers.oneFormat();
        x.deposit(0, 1, 3);
        x.revise(0, 2, false);
        x.purge(0, 0);
        return x;
    }

    @Holds(in = "Terms", says = "and its number is not used again.")
    static void aRemovedUnitsNumberIsNotUsedAgain() {
        Fixityhall x = firstUnitRemoved();
        x.revise(0, 1, false);
        Check.answers("the same value again", 2, () -> x.unitOf(0, 2));
        x.purge(0, 2);
        x.revise(0, 3, false);
        Check.answers("also if it was the last number", 3, () -> x.unitOf(0, 3));
        Check.refuses("unit 2 is not there", Check.INDEX, () -> x.sites(2));
    }

    @Holds(in = "Terms", says = "versions can be purged, and units that nobody needs any more are removed.")
    static void ofSixVersionsTheNeededUnitsAreLeft() {
        Fixityhall x = Keepers.withVersions(1);
        x.revise(0, 120, true);
        x.revise(0, 300, false);
        x.deposit(0, 300, 1);
        x.revise(1, 320, true);
        x.revise(1, 500, false);
        Check.answers("units 100, +20, 300 and 500", 4, x::units);
        Check.answers("object 1 needs 300", 0, () -> x.purge(0, 2));
        Check.answers("object 1 needs +20 and 300", 0, () -> x.purge(0, 1));
        Check.answers("nobody needs +20 then", 1, () -> x.purge(1, 1));
        Check.answers("nobody needs 300 then", 1, () -> x.purge(1, 0));
        Check.answers("100 and 500 are left", 2, x::units);
    }

    // ---- terms: reading

    @Holds(in = "Terms", says = "its own and those on the way over its bases.")
    static void purgedBasesAreReadToo() {
        Fixityhall x = Keepers.withVersions(1);
        x.revise(0, 120, true);
        x.revise(0, 150, true);
        x.purge(0, 0);
        x.purge(0, 1);
        damageAll(x, 0, 97);
        damageAll(x, 1, 194);
        damageAll(x, 2, 291);
        Check.answers("all three good values", 150 + 97 + 194 + 291, () -> x.read(0, 2));
    }

    @Holds(in = "Terms", says = "its own and those on the way over its bases.")
    static void aUnitThatIsTwiceOnTheWayIsAddedTwice() {
        Fixityhall x = Keepers.withVersions(1);
        x.revise(0, 103, true);
        x.revise(0, 106, true);
        Check.answers("one difference", 2, x::units);
        Check.answers("100 + 3 + 3", 106, () -> x.read(0, 2));
    }

    @Holds(in = "Terms", says = "It can be read if all of these have a good value.")
    static void oneUnitWithoutAGoodValueOnTheWayIsEnough() {
        for (int lost = 0; lost < 3; lost++) {
            Fixityhall x = Keepers.withVersions(1);
            x.revise(0, 120, true);
            x.revise(0, 150, true);
            damageAll(x, lost, 1);
            for (int i = 0; i < 3; i++) {
                int version = i;
                if (version < lost) {
                    Check.answers("before unit " + lost, version == 0 ? 100 : 120, () -> x.read(0, version));
                } else {
                    Check.refuses("from unit " + lost, Check.STATE, () -> x.read(0, version));
                }
            }
        }
    }
}
