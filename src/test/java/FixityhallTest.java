/** Each promise of the document by itself: ordinary calls, the edges that are named, and wrong calls. */
public final class FixityhallTest {
    private static final int LEAST = Integer.MIN_VALUE;
    private static final int GREATEST = Integer.MAX_VALUE;

    public static void main(String[] args) {
        newObjectIsEmpty();
        addFormatNumbersFormats();
        setRiskTellsTheRiskBefore();
        addConversionTellsTheLeastLoss();
        addConversionRefuses();
        bestWayCountsLossAndConversions();
        depositNumbersObjects();
        depositRefuses();
        depositSharesUnits();
        placingTakesTheSiteWithTheFewestCopies();
        reviseStoresWholeOrAsDifference();
        reviseBuildsOnTheLatestThatIsThere();
        reviseRefuses();
        differencesAreSharedAndReachTheirEdges();
        convertMakesTheContent();
        convertReadsBelowZero();
        convertRefuses();
        purgeRemovesWhatNobodyNeeds();
        purgeRefuses();
        versionsIsASet();
        unitOfRefuses();
        readAddsGoodValues();
        readRefuses();
        atRiskLooksAtTheLatestVersion();
        unitsCountsThoseThatAreThere();
        sitesAndSoundTellTheCopies();
        damageChangesACopy();
        damageRefuses();
        goodValueIsWhatMostSoundCopiesHave();
        digestHoldsBelowZero();
        toggleSiteClosesAndOpens();
        auditGoesRound();
        auditBeginsBehindTheLastEvenIfGone();
        auditRefuses();
        replicatePlacesGoodValues();
        lackingCountsAllUnits();
        wantedNeverBecomesLess();
        sharingPlacesCopiesWithTheGoodValue();
        Check.end();
    }

    private static Fixityhall withFormats(int number) {
        Fixityhall x = new Fixityhall();
        for (int i = 0; i < number; i++) {
            x.addFormat(10 * i);
        }
        return x;
    }

    private static long bit(boolean answer) {
        return answer ? 1 : 0;
    }

    // ---- promise 1

    private static void newObjectIsEmpty() {
        Fixityhall x = new Fixityhall();
        Check.answers("new: units", 0, x::units);
        Check.answers("new: lacking", 0, x::lacking);
        Check.answers("new: replicate", 0, x::replicate);
        Check.answers("new: atRisk(0)", 0, () -> x.atRisk(0));
        Check.refuses("new: no format", Check.INDEX, () -> x.bestWay(0, 0));
        Check.refuses("new: no object", Check.INDEX, () -> x.versions(0));
        Check.refuses("new: no unit", Check.INDEX, () -> x.sites(0));
        Check.refuses("new: no copies", Check.STATE, () -> x.audit(1));
        for (int site = 0; site < 4; site++) {
            int closed = site;
            Check.answers("new: closing site " + site, 0, () -> x.toggleSite(closed));
        }
        Fixityhall y = withFormats(1);
        y.deposit(0, 1, 3);
        Check.answers("objects are apart", 0, x::units);
        Check.answers("all sites are open at first", 7, () -> y.sites(0));
    }

    // ---- promises 2 to 5

    private static void addFormatNumbersFormats() {
        Fixityhall x = new Fixityhall();
        for (int wrong : new int[] {-1, 101, LEAST, GREATEST}) {
            Check.refuses("addFormat " + wrong, Check.ARGUMENT, () -> x.addFormat(wrong));
        }
        int[] risks = {0, 100, 1, 99, 50, 50, 0, 100};
        for (int i = 0; i < 8; i++) {
            int risk = risks[i];
            Check.answers("addFormat", i, () -> x.addFormat(risk));
        }
        Check.refuses("ninth format", Check.STATE, () -> x.addFormat(5));
        Check.refuses("ninth format, wrong risk", Check.ARGUMENT, () -> x.addFormat(101));
        Check.refuses("no ninth format came", Check.INDEX, () -> x.setRisk(8, 5));
        for (int i = 0; i < 8; i++) {
            int format = i;
            Check.answers("risk of " + i, risks[i], () -> x.setRisk(format, 7));
        }
    }

    private static void setRiskTellsTheRiskBefore() {
        Fixityhall x = withFormats(2);
        Check.answers("setRisk", 10, () -> x.setRisk(1, 100));
        Check.answers("setRisk", 100, () -> x.setRisk(1, 0));
        Check.answers("setRisk of another", 0, () -> x.setRisk(0, 3));
        Check.answers("setRisk", 0, () -> x.setRisk(1, 0));
        for (int wrong : new int[] {-1, 2, 8, LEAST, GREATEST}) {
            Check.refuses("setRisk of " + wrong, Check.INDEX, () -> x.setRisk(wrong, 1));
            Check.refuses("risk first, then format", Check.ARGUMENT, () -> x.setRisk(wrong, 101));
        }
        for (int wrong : new int[] {-1, 101, LEAST, GREATEST}) {
            Check.refuses("setRisk to " + wrong, Check.ARGUMENT, () -> x.setRisk(0, wrong));
        }
        Check.answers("refused calls change nothing", 3, () -> x.setRisk(0, 3));
    }

    private static void addConversionTellsTheLeastLoss() {
        Fixityhall x = withFormats(4);
        Check.answers("first conversion", 30, () -> x.addConversion(0, 1, 30));
        Check.answers("second conversion", 5, () -> x.addConversion(1, 2, 5));
        Check.answers("worse than the way over 1", 35, () -> x.addConversion(0, 2, 40));
        Check.answers("better than that", 34, () -> x.addConversion(0, 2, 34));
        Check.answers("in place of the one before", 35, () -> x.addConversion(0, 2, 100));
        Check.answers("only one direction", -1, () -> x.bestWay(2, 0));
        Check.answers("loss 0", 0, () -> x.addConversion(2, 3, 0));
        Check.answers("loss 100", 100, () -> x.addConversion(3, 0, 100));
        Check.answers("round by 3", 10503, () -> x.bestWay(1, 0));
    }

    private static void addConversionRefuses() {
        Fixityhall x = withFormats(2);
        for (int wrong : new int[] {-1, 101, LEAST, GREATEST}) {
            Check.refuses("loss " + wrong, Check.ARGUMENT, () -> x.addConversion(0, 1, wrong));
            Check.refuses("loss first, then format", Check.ARGUMENT, () -> x.addConversion(0, 9, wrong));
        }
        Check.refuses("the same format", Check.ARGUMENT, () -> x.addConversion(1, 1, 5));
        for (int wrong : new int[] {-1, 2, 8, LEAST, GREATEST}) {
            Check.refuses("from " + wrong, Check.INDEX, () -> x.addConversion(wrong, 1, 5));
            Check.refuses("to " + wrong, Check.INDEX, () -> x.addConversion(1, wrong, 5));
            Check.refuses("the same first, then format", Check.ARGUMENT, () -> x.addConversion(wrong, wrong, 5));
        }
        Check.answers("nothing was added", -1, () -> x.bestWay(0, 1));
        x.addConversion(0, 1, 7);
        Check.refuses("no change in place", Check.ARGUMENT, () -> x.addConversion(0, 1, 101));
        Check.answers("the conversion stays", 701, () -> x.bestWay(0, 1));
    }

    private static void bestWayCountsLossAndConversions() {
        Fixityhall x = withFormats(8);
        Check.answers("to itself", 0, () -> x.bestWay(7, 7));
        Check.answers("no way", -1, () -> x.bestWay(0, 7));
        for (int i = 7; i > 0; i--) {
            x.addConversion(i, i - 1, 100);
        }
        Check.answers("the longest way", 70007, () -> x.bestWay(7, 0));
        Check.answers("not against it", -1, () -> x.bestWay(0, 7));
        x.addConversion(7, 4, 100);
        x.addConversion(4, 0, 0);
        Check.answers("shorter", 10002, () -> x.bestWay(7, 0));
        x.addConversion(7, 0, 100);
        Check.answers("of several the fewest conversions", 10001, () -> x.bestWay(7, 0));
        x.addConversion(7, 1, 50);
        x.addConversion(1, 2, 20);
        x.addConversion(2, 0, 29);
        Check.answers("least loss goes before fewest", 9903, () -> x.bestWay(7, 0));
        Check.answers("to itself in spite of rings", 0, () -> x.bestWay(1, 1));
        Fixityhall free = withFormats(8);
        for (int i = 0; i < 7; i++) {
            free.addConversion(i, i + 1, 0);
        }
        Check.answers("without loss", 7, () -> free.bestWay(0, 7));
        Fixityhall y = withFormats(2);
        for (int wrong : new int[] {-1, 2, 8, LEAST, GREATEST}) {
            Check.refuses("from " + wrong, Check.INDEX, () -> y.bestWay(wrong, 0));
            Check.refuses("to " + wrong, Check.INDEX, () -> y.bestWay(0, wrong));
            Check.refuses("both " + wrong, Check.INDEX, () -> y.bestWay(wrong, wrong));
        }
    }

    // ---- promise 6

    private static void depositNumbersObjects() {
        Fixityhall x = withFormats(2);
        for (int i = 0; i < 10; i++) {
            int content = i;
            Check.answers("deposit", i, () -> x.deposit(1, content, 1));
            Check.answers("its content", i, () -> x.read(content, 0));
            Check.answers("its unit", i, () -> x.unitOf(content, 0));
            Check.answers("its versions", 1, () -> x.versions(content));
        }
        Check.refuses("eleventh object", Check.STATE, () -> x.deposit(1, 0, 1));
        Check.refuses("no format goes first", Check.INDEX, () -> x.deposit(2, 0, 1));
        Check.refuses("content goes first", Check.ARGUMENT, () -> x.deposit(2, -1, 1));
        Check.refuses("copies go first", Check.ARGUMENT, () -> x.deposit(0, 0, 4));
        Check.answers("no unit came", 10, x::units);
        Check.refuses("no object came", Check.INDEX, () -> x.versions(10));
    }

    private static void depositRefuses() {
        Fixityhall x = withFormats(1);
        for (int wrong : new int[] {-1, 1000000, LEAST, GREATEST}) {
            Check.refuses("content " + wrong, Check.ARGUMENT, () -> x.deposit(0, wrong, 1));
        }
        for (int wrong : new int[] {-1, 0, 4, LEAST, GREATEST}) {
            Check.refuses("copies " + wrong, Check.ARGUMENT, () -> x.deposit(0, 5, wrong));
            Check.refuses("copies first, then format", Check.ARGUMENT, () -> x.deposit(1, 5, wrong));
        }
        for (int wrong : new int[] {-1, 1, 8, LEAST, GREATEST}) {
            Check.refuses("format " + wrong, Check.INDEX, () -> x.deposit(wrong, 5, 1));
        }
        Check.answers("no unit came", 0, x::units);
        Check.answers("content 0", 0, () -> x.deposit(0, 0, 1));
        Check.answers("content 999999", 1, () -> x.deposit(0, 999999, 3));
        Check.answers("content 999999 reads", 999999, () -> x.read(1, 0));
    }

    private static void depositSharesUnits() {
        Fixityhall x = withFormats(2);
        x.deposit(0, 500, 1);
        x.deposit(1, 500, 3);
        Check.answers("one unit of one value", 1, x::units);
        Check.answers("shared", 0, () -> x.unitOf(1, 0));
        Check.answers("copies of the greater number", 7, () -> x.sites(0));
        x.deposit(0, 501, 2);
        Check.answers("another value", 1, () -> x.unitOf(2, 0));
        x.revise(0, 1000, true);
        Check.answers("a difference of the same value is another unit", 2, () -> x.unitOf(0, 1));
        Check.answers("three units", 3, x::units);
    }

    private static void placingTakesTheSiteWithTheFewestCopies() {
        Fixityhall x = withFormats(1);
        x.deposit(0, 1, 3);
        Check.answers("lowest first", 0b0111, () -> x.sites(0));
        x.deposit(0, 2, 2);
        Check.answers("fewest, then lowest", 0b1001, () -> x.sites(1));
        x.deposit(0, 3, 1);
        Check.answers("loads 2 1 1 1", 0b0010, () -> x.sites(2));
        x.toggleSite(2);
        x.deposit(0, 4, 2);
        Check.answers("loads 2 2 closed 1", 0b1001, () -> x.sites(3));
        x.toggleSite(2);
        x.deposit(0, 5, 3);
        Check.answers("loads 3 2 0 2", 0b1110, () -> x.sites(4));
    }

    // ---- promise 7

    private static void reviseStoresWholeOrAsDifference() {
        Fixityhall x = withFormats(1);
        x.deposit(0, 500, 2);
        Check.answers("difference", 1, () -> x.revise(0, 520, true));
        Check.answers("reads", 520, () -> x.read(0, 1));
        Check.answers("smaller", 2, () -> x.revise(0, 490, true));
        Check.answers("reads", 490, () -> x.read(0, 2));
        Check.answers("whole", 3, () -> x.revise(0, 7, false));
        Check.answers("reads", 7, () -> x.read(0, 3));
        Check.answers("whole again", 4, () -> x.revise(0, 500, false));
        Check.answers("shares the first unit", 0, () -> x.unitOf(0, 4));
        Check.answers("four units", 4, x::units);
        Check.answers("as many copies as the object wants", 0b1100, () -> x.sites(1));
        x.damage(0, 0, 5);
        x.damage(1, 0, 5);
        Check.refuses("the difference needs its base", Check.STATE, () -> x.read(0, 2));
        Check.answers("the whole one needs no base", 7, () -> x.read(0, 3));
    }

    private static void reviseBuildsOnTheLatestThatIsThere() {
        Fixityhall x = withFormats(2);
        x.addConversion(0, 1, 0);
        x.deposit(0, 100, 1);
        x.revise(0, 300, false);
        x.convert(0, 1);
        x.purge(0, 2);
        Check.answers("a purged number is not used again", 3, () -> x.revise(0, 310, true));
        Check.answers("the base is version 1", 310, () -> x.read(0, 3));
        x.damage(1, x.unitOf(0, 1), 1);
        Check.refuses("so it needs version 1", Check.STATE, () -> x.read(0, 3));
        Check.answers("the format is that of version 1", 0, () -> x.atRisk(10));
        Check.answers("version 0 is not needed", 100, () -> x.read(0, 0));
    }

    private static void reviseRefuses() {
        Fixityhall x = withFormats(1);
        x.deposit(0, 0, 1);
        for (int wrong : new int[] {-1, 1, 10, LEAST, GREATEST}) {
            Check.refuses("object " + wrong, Check.INDEX, () -> x.revise(wrong, 5, true));
            Check.refuses("content first, then object", Check.ARGUMENT, () -> x.revise(wrong, -1, true));
        }
        for (int wrong : new int[] {-1, 1000000, LEAST, GREATEST}) {
            Check.refuses("content " + wrong, Check.ARGUMENT, () -> x.revise(0, wrong, false));
        }
        for (int i = 1; i < 10; i++) {
            int content = i;
            Check.answers("revise", i, () -> x.revise(0, content, content % 2 == 0));
        }
        Check.refuses("eleventh version", Check.STATE, () -> x.revise(0, 5, false));
        x.purge(0, 3);
        Check.refuses("purged ones count as had", Check.STATE, () -> x.revise(0, 5, true));
        Check.refuses("content goes first", Check.ARGUMENT, () -> x.revise(0, 1000000, true));
        Check.refuses("the object goes first", Check.INDEX, () -> x.revise(1, 5, true));
    }

    private static void differencesAreSharedAndReachTheirEdges() {
        Fixityhall x = withFormats(1);
        x.deposit(0, 0, 1);
        x.deposit(0, 999999, 1);
        x.revise(0, 999999, true);
        x.revise(1, 0, true);
        Check.answers("999999 and -999999 differ", 4, x::units);
        Check.answers("greatest difference", 999999, () -> x.read(0, 1));
        Check.answers("least difference", 0, () -> x.read(1, 1));
        x.revise(1, 999999, true);
        Check.answers("shared over objects", 2, () -> x.unitOf(1, 2));
        Check.answers("its reading", 999999, () -> x.read(1, 2));
        x.deposit(0, 10, 1);
        x.revise(2, 13, true);
        x.revise(2, 16, true);
        x.revise(2, 16, true);
        Check.answers("shared with its own base", bit(true), () -> bit(x.unitOf(2, 1) == x.unitOf(2, 2)));
        Check.answers("and added for both", 16, () -> x.read(2, 2));
        Check.answers("difference 0", 16, () -> x.read(2, 3));
        Check.answers("purged as the base", 0, () -> x.purge(2, 1));
        Check.answers("purged", 0, () -> x.purge(2, 2));
        Check.answers("still added for both", 16, () -> x.read(2, 3));
        x.revise(2, 5, false);
        Check.answers("the last one that needs both differences", 2, () -> x.purge(2, 3));
    }

    // ---- promise 8

    private static void convertMakesTheContent() {
        Fixityhall x = withFormats(8);
        x.addConversion(0, 1, 30);
        x.addConversion(1, 2, 5);
        x.deposit(0, 123456, 2);
        Check.answers("convert over 1", 1, () -> x.convert(0, 2));
        Check.answers("content", 456035, () -> x.read(0, 1));
        Check.answers("as many copies as wanted", 2, () -> x.sound(1));
        Check.answers("the format is the new one", 1, () -> x.atRisk(20));
        x.addConversion(2, 0, 0);
        x.deposit(2, 456035, 1);
        x.deposit(2, 7, 1);
        Check.answers("short content", 1, () -> x.convert(2, 0));
        Check.answers("content", 7000, () -> x.read(2, 1));
        for (int i = 0; i < 7; i++) {
            x.addConversion(i, i + 1, 100);
        }
        x.deposit(0, 999999, 1);
        x.addConversion(1, 2, 100);
        x.convert(3, 7);
        Check.answers("the greatest loss", 999700, () -> x.read(3, 1));
        x.damage(Integer.numberOfTrailingZeros(x.sites(x.unitOf(3, 1))), x.unitOf(3, 1), 97);
        x.revise(3, 999700, true);
        x.addConversion(7, 0, 1);
        x.convert(3, 0);
        Check.answers("what it reads, not its content", 797001, () -> x.read(3, 3));
        x.deposit(0, 797001, 1);
        Check.answers("the content is known as such", bit(true), () -> bit(x.unitOf(4, 0) == x.unitOf(3, 3)));
    }

    private static void convertReadsBelowZero() {
        Fixityhall x = withFormats(2);
        x.addConversion(0, 1, 4);
        x.deposit(0, 5, 1);
        Check.answers("unseen damage", 1, () -> bit(x.damage(0, 0, -97 * 10)));
        Check.answers("reads below 0", -965, () -> x.read(0, 0));
        x.convert(0, 1);
        Check.answers("remainder of -965", 35004, () -> x.read(0, 1));
        Fixityhall y = withFormats(2);
        y.addConversion(0, 1, 4);
        y.deposit(0, 30, 1);
        y.damage(0, 0, -970);
        y.damage(0, 0, -970);
        y.damage(0, 0, -97);
        Check.answers("reads -2007", -2007, () -> y.read(0, 0));
        y.convert(0, 1);
        Check.answers("remainder of -2007", 993004, () -> y.read(0, 1));
    }

    private static void convertRefuses() {
        Fixityhall x = withFormats(3);
        x.addConversion(0, 1, 1);
        x.addConversion(1, 0, 1);
        x.deposit(0, 5, 1);
        for (int wrong : new int[] {-1, 1, 10, LEAST, GREATEST}) {
            Check.refuses("object " + wrong, Check.INDEX, () -> x.convert(wrong, 1));
        }
        for (int wrong : new int[] {-1, 3, 8, LEAST, GREATEST}) {
            Check.refuses("format " + wrong, Check.INDEX, () -> x.convert(0, wrong));
        }
        Check.refuses("its own format", Check.STATE, () -> x.convert(0, 0));
        Check.refuses("no way", Check.STATE, () -> x.convert(0, 2));
        x.damage(0, 0, 1);
        Check.refuses("cannot be read", Check.STATE, () -> x.convert(0, 1));
        x.damage(0, 0, -1);
        Check.answers("no version came", 1, () -> x.versions(0));
        Check.answers("no unit came", 1, x::units);
        for (int i = 1; i < 10; i++) {
            int next = i;
            Check.answers("convert", i, () -> x.convert(0, next % 2));
        }
        Check.refuses("eleventh version", Check.STATE, () -> x.convert(0, 0));
        Check.refuses("no object goes first", Check.INDEX, () -> x.convert(1, 0));
        Check.refuses("no format goes first", Check.INDEX, () -> x.convert(0, 3));
        x.purge(0, 9);
        Check.refuses("the format of the latest that is there", Check.STATE, () -> x.convert(0, 0));
    }

    // ---- promise 9

    private static void purgeRemovesWhatNobodyNeeds() {
        Fixityhall x = withFormats(1);
        x.deposit(0, 500, 2);
        x.revise(0, 520, true);
        x.revise(0, 505, true);
        x.revise(0, 600, false);
        Check.answers("the base of others stays", 0, () -> x.purge(0, 1));
        Check.answers("the first base stays", 0, () -> x.purge(0, 0));
        Check.answers("reads over purged bases", 505, () -> x.read(0, 2));
        Check.answers("four units", 4, x::units);
        Check.answers("loads 2 2 2 2", 0b1100, () -> x.sites(3));
        Check.answers("all three go", 3, () -> x.purge(0, 2));
        Check.answers("one unit", 1, x::units);
        Check.refuses("a removed unit is not there", Check.INDEX, () -> x.sites(1));
        x.revise(0, 500, false);
        Check.answers("removed numbers are not used again", 4, () -> x.unitOf(0, 4));
        Check.answers("their copies are gone from the sites", 0b0011, () -> x.sites(4));
        x.deposit(0, 500, 1);
        Check.answers("what another object needs stays", 0, () -> x.purge(0, 4));
        Check.answers("reads", 500, () -> x.read(1, 0));
    }

    private static void purgeRefuses() {
        Fixityhall x = withFormats(1);
        x.deposit(0, 5, 1);
        Check.refuses("the only version", Check.STATE, () -> x.purge(0, 0));
        x.revise(0, 6, false);
        for (int wrong : new int[] {-1, 1, 10, LEAST, GREATEST}) {
            Check.refuses("object " + wrong, Check.INDEX, () -> x.purge(wrong, 0));
        }
        for (int wrong : new int[] {-1, 2, 10, LEAST, GREATEST}) {
            Check.refuses("version " + wrong, Check.INDEX, () -> x.purge(0, wrong));
        }
        Check.answers("purge", 1, () -> x.purge(0, 0));
        Check.refuses("purged already goes before the only one", Check.INDEX, () -> x.purge(0, 0));
        Check.refuses("the only version that is there", Check.STATE, () -> x.purge(0, 1));
        Check.answers("it stays", 6, () -> x.read(0, 1));
    }

    // ---- promises 10 and 11

    private static void versionsIsASet() {
        Fixityhall x = withFormats(1);
        x.deposit(0, 0, 1);
        for (int i = 1; i < 10; i++) {
            x.revise(0, i, true);
        }
        Check.answers("ten versions", 1023, () -> x.versions(0));
        x.purge(0, 9);
        x.purge(0, 0);
        x.purge(0, 4);
        Check.answers("seven versions", 0b0111101110, () -> x.versions(0));
        for (int wrong : new int[] {-1, 1, 10, LEAST, GREATEST}) {
            Check.refuses("versions of " + wrong, Check.INDEX, () -> x.versions(wrong));
        }
    }

    private static void unitOfRefuses() {
        Fixityhall x = withFormats(1);
        x.deposit(0, 5, 1);
        x.deposit(0, 6, 1);
        x.revise(0, 6, false);
        x.revise(0, 8, true);
        Check.answers("shared with another object", 1, () -> x.unitOf(0, 1));
        Check.answers("a difference", 2, () -> x.unitOf(0, 2));
        x.purge(0, 1);
        Check.refuses("purged, though needed", Check.INDEX, () -> x.unitOf(0, 1));
        for (int wrong : new int[] {-1, 3, 10, LEAST, GREATEST}) {
            Check.refuses("version " + wrong, Check.INDEX, () -> x.unitOf(0, wrong));
            Check.refuses("object " + wrong, Check.INDEX, () -> x.unitOf(wrong, 0));
        }
    }

    // ---- promise 12

    private static void readAddsGoodValues() {
        Fixityhall x = withFormats(1);
        x.deposit(0, 500, 1);
        x.revise(0, 520, true);
        x.revise(0, 505, true);
        x.damage(0, 0, 97);
        x.damage(1, 1, -194);
        Check.answers("own good value", 597, () -> x.read(0, 0));
        Check.answers("two good values", 597 + 20 - 194, () -> x.read(0, 1));
        Check.answers("three good values", 597 + 20 - 194 - 15, () -> x.read(0, 2));
        x.revise(0, 510, true);
        Check.answers("the difference is that of the contents", 597 + 20 - 194 - 15 + 5, () -> x.read(0, 3));
    }

    private static void readRefuses() {
        Fixityhall x = withFormats(1);
        x.deposit(0, 500, 1);
        x.revise(0, 520, true);
        x.revise(0, 505, true);
        x.damage(1, 1, 1);
        Check.answers("below the damage", 500, () -> x.read(0, 0));
        Check.refuses("no sound copy of its own", Check.STATE, () -> x.read(0, 1));
        Check.refuses("no sound copy of its base", Check.STATE, () -> x.read(0, 2));
        x.damage(1, 1, -1);
        Check.answers("sound again", 505, () -> x.read(0, 2));
        x.purge(0, 1);
        x.toggleSite(1);
        Check.refuses("no copy of its base", Check.STATE, () -> x.read(0, 2));
        Check.refuses("purged goes before that", Check.INDEX, () -> x.read(0, 1));
        for (int wrong : new int[] {-1, 3, 10, LEAST, GREATEST}) {
            Check.refuses("version " + wrong, Check.INDEX, () -> x.read(0, wrong));
            Check.refuses("object " + wrong, Check.INDEX, () -> x.read(wrong, 0));
        }
    }

    // ---- promise 13

    private static void atRiskLooksAtTheLatestVersion() {
        Fixityhall x = withFormats(3);
        x.addConversion(0, 2, 1);
        for (int i = 0; i < 10; i++) {
            x.deposit(i % 3, i, 1);
        }
        Check.answers("all", 1023, () -> x.atRisk(0));
        Check.answers("the same risk", 0b0110110110, () -> x.atRisk(10));
        Check.answers("a higher one", 0b0100100100, () -> x.atRisk(11));
        Check.answers("none", 0, () -> x.atRisk(21));
        x.convert(0, 2);
        Check.answers("converted", 0b0100100101, () -> x.atRisk(20));
        x.purge(0, 1);
        Check.answers("purged again", 0b0100100100, () -> x.atRisk(20));
        x.setRisk(0, 100);
        Check.answers("risk 100", 0b1001001001, () -> x.atRisk(100));
        for (int wrong : new int[] {-1, 101, LEAST, GREATEST}) {
            Check.refuses("atRisk " + wrong, Check.ARGUMENT, () -> x.atRisk(wrong));
        }
    }

    // ---- promises 14 to 16

    private static void unitsCountsThoseThatAreThere() {
        Fixityhall x = withFormats(1);
        x.deposit(0, 1, 1);
        x.deposit(0, 1, 1);
        Check.answers("shared", 1, x::units);
        x.revise(0, 2, false);
        x.revise(0, 3, true);
        Check.answers("three", 3, x::units);
        x.purge(0, 0);
        Check.answers("shared ones stay", 3, x::units);
        x.purge(0, 2);
        Check.answers("removed ones are not counted", 2, x::units);
        x.toggleSite(0);
        x.toggleSite(1);
        Check.answers("units without copies are", 2, x::units);
    }

    private static void sitesAndSoundTellTheCopies() {
        Fixityhall x = withFormats(1);
        x.deposit(0, 500, 3);
        Check.answers("sites", 0b0111, () -> x.sites(0));
        Check.answers("sound", 3, () -> x.sound(0));
        x.damage(1, 0, 1);
        Check.answers("sites with the damaged one", 0b0111, () -> x.sites(0));
        Check.answers("sound without it", 2, () -> x.sound(0));
        x.damage(2, 0, 97);
        Check.answers("sound by its digest", 2, () -> x.sound(0));
        x.toggleSite(2);
        Check.answers("sites without the closed one", 0b0011, () -> x.sites(0));
        Check.answers("sound without the closed one", 1, () -> x.sound(0));
        x.damage(0, 0, 1);
        Check.answers("none is sound", 0, () -> x.sound(0));
        x.toggleSite(0);
        x.toggleSite(1);
        Check.answers("no sites", 0, () -> x.sites(0));
        Check.answers("none", 0, () -> x.sound(0));
        x.revise(0, 7, false);
        x.purge(0, 0);
        for (int wrong : new int[] {-1, 0, 2, 100, LEAST, GREATEST}) {
            Check.refuses("sites of " + wrong, Check.INDEX, () -> x.sites(wrong));
            Check.refuses("sound of " + wrong, Check.INDEX, () -> x.sound(wrong));
        }
    }

    // ---- promise 17

    private static void damageChangesACopy() {
        Fixityhall x = withFormats(1);
        x.deposit(0, 500, 1);
        Check.answers("unsound", 0, () -> bit(x.damage(0, 0, 1)));
        Check.answers("by 97 in all", 1, () -> bit(x.damage(0, 0, 96)));
        Check.answers("it has the sum", 597, () -> x.read(0, 0));
        Check.answers("sound all the same", 1, () -> bit(x.damage(0, 0, -970)));
        Check.answers("greatest change", 0, () -> bit(x.damage(0, 0, 1000)));
        Check.answers("least change", 1, () -> bit(x.damage(0, 0, -1000)));
        Check.answers("it has the sum", -373, () -> x.read(0, 0));
    }

    private static void damageRefuses() {
        Fixityhall x = withFormats(1);
        x.deposit(0, 500, 2);
        for (int wrong : new int[] {-1, 4, LEAST, GREATEST}) {
            Check.refuses("site " + wrong, Check.ARGUMENT, () -> bit(x.damage(wrong, 0, 1)));
            Check.refuses("site first, then unit", Check.ARGUMENT, () -> bit(x.damage(wrong, 5, 1)));
        }
        for (int wrong : new int[] {0, -1001, 1001, LEAST, GREATEST}) {
            Check.refuses("change " + wrong, Check.ARGUMENT, () -> bit(x.damage(0, 0, wrong)));
            Check.refuses("change first, then copy", Check.ARGUMENT, () -> bit(x.damage(3, 0, wrong)));
        }
        for (int wrong : new int[] {-1, 1, 100, LEAST, GREATEST}) {
            Check.refuses("unit " + wrong, Check.INDEX, () -> bit(x.damage(0, wrong, 1)));
        }
        Check.refuses("no copy there", Check.INDEX, () -> bit(x.damage(2, 0, 1)));
        x.toggleSite(1);
        Check.refuses("no copy any more", Check.INDEX, () -> bit(x.damage(1, 0, 1)));
        x.revise(0, 7, false);
        x.purge(0, 0);
        Check.refuses("no unit any more", Check.INDEX, () -> bit(x.damage(0, 0, 1)));
        Check.answers("nothing was damaged", 7, () -> x.read(0, 1));
    }

    private static void goodValueIsWhatMostSoundCopiesHave() {
        Fixityhall x = withFormats(1);
        x.deposit(0, 500, 3);
        x.damage(0, 0, 97);
        Check.answers("two against one", 500, () -> x.read(0, 0));
        x.damage(1, 0, 194);
        Check.answers("of three, the lowest site's", 597, () -> x.read(0, 0));
        x.damage(2, 0, 194);
        Check.answers("two others against one", 694, () -> x.read(0, 0));
        x.damage(2, 0, 1);
        Check.answers("unsound ones have no say", 597, () -> x.read(0, 0));
        x.damage(1, 0, 1);
        Check.answers("two that agree but are unsound", 597, () -> x.read(0, 0));
        x.damage(0, 0, 1);
        Check.refuses("none is sound", Check.STATE, () -> x.read(0, 0));
    }

    private static void digestHoldsBelowZero() {
        Fixityhall x = withFormats(1);
        x.deposit(0, 3, 1);
        x.revise(0, 0, true);
        Check.answers("a value of -3 is sound", 1, () -> x.sound(1));
        Check.answers("94 has the digest of -3", 1, () -> bit(x.damage(1, 1, 97)));
        Check.answers("reads", 97, () -> x.read(0, 1));
        Check.answers("-3 - 97", 1, () -> bit(x.damage(1, 1, -194)));
        Check.answers("3 has another", 0, () -> bit(x.damage(1, 1, 103)));
        Check.answers("-94 has the digest of 3", 1, () -> bit(x.damage(0, 0, -97)));
    }

    // ---- promise 18

    private static void toggleSiteClosesAndOpens() {
        Fixityhall x = withFormats(1);
        x.deposit(0, 1, 3);
        x.deposit(0, 2, 3);
        for (int wrong : new int[] {-1, 4, LEAST, GREATEST}) {
            Check.refuses("site " + wrong, Check.ARGUMENT, () -> x.toggleSite(wrong));
        }
        Check.answers("closed", 2, () -> x.toggleSite(0));
        Check.answers("gone", 0b0110, () -> x.sites(0));
        Check.answers("gone", 0b1010, () -> x.sites(1));
        Check.answers("opened", 0, () -> x.toggleSite(0));
        Check.answers("without copies", 0b0110, () -> x.sites(0));
        x.toggleSite(0);
        x.deposit(0, 3, 3);
        Check.answers("nothing is placed at a closed site", 0b1110, () -> x.sites(2));
        Check.answers("closed", 3, () -> x.toggleSite(1));
        x.deposit(0, 4, 2);
        Check.answers("two sites are left", 0b1100, () -> x.sites(3));
        x.deposit(0, 5, 3);
        Check.answers("as many as can be", 0b1100, () -> x.sites(4));
        x.toggleSite(0);
        x.deposit(0, 6, 2);
        Check.answers("the opened site is the emptiest", 0b0101, () -> x.sites(5));
        Check.answers("closed", 1, () -> x.toggleSite(0));
    }

    // ---- promise 19

    private static void auditGoesRound() {
        Fixityhall x = withFormats(1);
        x.deposit(0, 1, 3);
        x.deposit(0, 2, 3);
        x.damage(1, 0, 1);
        x.damage(3, 1, 97);
        Check.answers("the first copy", 0, () -> x.audit(1));
        Check.answers("the second one", 1, () -> x.audit(1));
        Check.answers("repaired with the good value", 3, () -> x.sound(0));
        x.damage(0, 0, 5);
        Check.answers("up to the last but one", 0, () -> x.audit(3));
        Check.answers("the last one, sound but other", 1, () -> x.audit(1));
        Check.answers("round to the first", 1, () -> x.audit(1));
        x.damage(0, 0, 5);
        Check.answers("behind it", 0, () -> x.audit(5));
        Check.answers("round again", 1, () -> x.audit(6));
        x.damage(0, 0, 5);
        x.damage(1, 0, 5);
        x.damage(0, 1, 5);
        Check.answers("many rounds repair once", 3, () -> x.audit(100));
        x.damage(0, 0, 5);
        x.damage(1, 0, 5);
        x.damage(2, 0, 5);
        Check.answers("no good value, no repair", 0, () -> x.audit(100));
        Check.answers("as it was", 0, () -> x.sound(0));
    }

    private static void auditBeginsBehindTheLastEvenIfGone() {
        Fixityhall x = withFormats(1);
        x.deposit(0, 1, 3);
        x.deposit(0, 2, 3);
        x.audit(2);
        x.toggleSite(1);
        x.damage(2, 0, 1);
        Check.answers("site 2 is next", 1, () -> x.audit(1));
        x.damage(0, 0, 1);
        Check.answers("then the two of unit 1", 0, () -> x.audit(2));
        Check.answers("then site 0 of unit 0", 1, () -> x.audit(1));
        Fixityhall y = withFormats(1);
        y.deposit(0, 1, 1);
        y.deposit(0, 2, 2);
        y.deposit(0, 3, 2);
        y.revise(1, 4, false);
        y.audit(2);
        y.purge(1, 0);
        y.damage(0, 2, 1);
        Check.answers("behind a removed unit", 1, () -> y.audit(1));
        y.audit(3);
        y.deposit(0, 9, 2);
        y.damage(Integer.numberOfTrailingZeros(y.sites(4)), 4, 5);
        Check.answers("a new unit is behind the last", 1, () -> y.audit(1));
    }

    private static void auditRefuses() {
        Fixityhall x = withFormats(1);
        for (int wrong : new int[] {-1, 0, 101, LEAST, GREATEST}) {
            Check.refuses("steps go first: " + wrong, Check.ARGUMENT, () -> x.audit(wrong));
        }
        Check.refuses("no copies yet", Check.STATE, () -> x.audit(100));
        x.deposit(0, 1, 1);
        for (int wrong : new int[] {-1, 0, 101, LEAST, GREATEST}) {
            Check.refuses("steps " + wrong, Check.ARGUMENT, () -> x.audit(wrong));
        }
        Check.answers("one copy, a hundred times", 0, () -> x.audit(100));
        x.toggleSite(0);
        Check.refuses("no copies any more", Check.STATE, () -> x.audit(1));
    }

    // ---- promises 20 and 21

    private static void replicatePlacesGoodValues() {
        Fixityhall x = withFormats(1);
        x.deposit(0, 1, 3);
        x.deposit(0, 2, 2);
        x.deposit(0, 3, 1);
        Check.answers("nothing is lacking", 0, x::replicate);
        x.toggleSite(1);
        x.toggleSite(0);
        Check.answers("unit 0", 0b0100, () -> x.sites(0));
        Check.answers("unit 1", 0b1000, () -> x.sites(1));
        Check.answers("unit 2", 0, () -> x.sites(2));
        x.damage(2, 0, 97);
        Check.answers("by rising unit, open sites only", 2, x::replicate);
        Check.answers("unit 0", 0b1100, () -> x.sites(0));
        Check.answers("both have the good value", 2, () -> x.sound(0));
        x.damage(2, 0, 1);
        Check.answers("the placed one has it too", 98, () -> x.read(0, 0));
        x.toggleSite(0);
        x.damage(3, 0, 1);
        Check.answers("no good value, nothing is placed", 0, x::replicate);
        x.damage(3, 0, -1);
        Check.answers("a good value again", 1, x::replicate);
        Check.answers("unit 0", 0b1101, () -> x.sites(0));
        Check.answers("unit 2 has none", 0, () -> x.sites(2));
    }

    private static void lackingCountsAllUnits() {
        Fixityhall x = withFormats(1);
        x.deposit(0, 1, 3);
        x.deposit(0, 2, 2);
        Check.answers("none", 0, x::lacking);
        x.toggleSite(0);
        Check.answers("one each", 2, x::lacking);
        x.toggleSite(1);
        x.toggleSite(2);
        x.toggleSite(3);
        Check.answers("all", 5, x::lacking);
        x.deposit(0, 3, 1);
        Check.answers("units made without copies count", 6, x::lacking);
        x.revise(1, 3, false);
        Check.answers("more wanted of a shared one", 7, x::lacking);
        x.purge(1, 0);
        Check.answers("removed ones do not count", 5, x::lacking);
        x.toggleSite(3);
        Check.answers("no good values", 0, x::replicate);
        Check.answers("still lacking", 5, x::lacking);
        x.deposit(0, 4, 3);
        Check.answers("placed in part", 7, x::lacking);
    }

    private static void wantedNeverBecomesLess() {
        Fixityhall x = withFormats(1);
        x.deposit(0, 1, 1);
        x.deposit(0, 1, 3);
        x.deposit(0, 1, 2);
        Check.answers("the greatest", 0b0111, () -> x.sites(0));
        x.revise(1, 2, false);
        x.purge(1, 0);
        x.toggleSite(0);
        Check.answers("also when that object has it no more", 2, x::lacking);
        Check.answers("replicate", 1 + 1, x::replicate);
        Check.answers("three again", 0b1110, () -> x.sites(0));
        Fixityhall y = withFormats(1);
        y.deposit(0, 1, 1);
        y.deposit(0, 5, 3);
        y.revise(1, 6, true);
        Check.answers("a base is wanted as before", 1, () -> y.sites(0));
        y.revise(0, 2, true);
        Check.answers("one copy is enough for that object", 0, y::lacking);
        Check.answers("shared", bit(true), () -> bit(y.unitOf(0, 1) == y.unitOf(1, 1)));
    }

    private static void sharingPlacesCopiesWithTheGoodValue() {
        Fixityhall x = withFormats(1);
        x.deposit(0, 500, 1);
        x.damage(0, 0, 97);
        x.deposit(0, 500, 3);
        Check.answers("placed", 0b0111, () -> x.sites(0));
        x.damage(0, 0, -97);
        Check.answers("with the good value then", 597, () -> x.read(1, 0));
        Fixityhall y = withFormats(1);
        y.deposit(0, 500, 1);
        y.damage(0, 0, 1);
        y.deposit(0, 500, 3);
        Check.answers("without a good value none is placed", 1, () -> y.sites(0));
        Check.answers("they are lacking", 2, y::lacking);
        y.damage(0, 0, -1);
        Check.answers("sharing again places", 2, () -> y.deposit(0, 500, 1));
        Check.answers("as many as are wanted", 0b0111, () -> y.sites(0));
        Fixityhall z = withFormats(1);
        z.deposit(0, 500, 2);
        z.toggleSite(0);
        z.toggleSite(0);
        z.revise(0, 510, true);
        Check.answers("a base is not shared anew", 0b0010, () -> z.sites(0));
    }
}
