/** The edges of the formats: promises 1 to 5, and what the terms say of conversions. */
final class FormatBounds {
    private static final int[] BELOW_0 = {-1, Integer.MIN_VALUE};
    private static final int[] ABOVE_100 = {101, Integer.MAX_VALUE};
    private static final int[] NO_FORMAT_OF_3 = {-1, 3, 8, Integer.MIN_VALUE, Integer.MAX_VALUE};

    private FormatBounds() {
    }

    // ---- promise 1: a new object

    @Holds(in = "Promise 1", says = "Creates a keeper without formats and objects.")
    static void newKeeperHasNoFormats() {
        Twin.refuses("bestWay", Check.INDEX, Fixityhall::new, x -> x.bestWay(0, 0));
        Twin.refuses("setRisk", Check.INDEX, Fixityhall::new, x -> x.setRisk(0, 0));
        Twin.refuses("addConversion", Check.INDEX, Fixityhall::new, x -> x.addConversion(0, 1, 0));
        Twin.refuses("deposit", Check.INDEX, Fixityhall::new, x -> x.deposit(0, 0, 1));
        Check.answers("the first format", 0, () -> new Fixityhall().addFormat(0));
    }

    @Holds(in = "Promise 1", says = "Creates a keeper without formats and objects.")
    static void newKeeperHasNoObjects() {
        Twin.refuses("versions", Check.INDEX, Fixityhall::new, x -> x.versions(0));
        Twin.refuses("revise", Check.INDEX, Fixityhall::new, x -> x.revise(0, 0, false));
        Twin.refuses("convert", Check.INDEX, Fixityhall::new, x -> x.convert(0, 0));
        Twin.refuses("purge", Check.INDEX, Fixityhall::new, x -> x.purge(0, 0));
        Twin.refuses("unitOf", Check.INDEX, Fixityhall::new, x -> x.unitOf(0, 0));
        Twin.refuses("read", Check.INDEX, Fixityhall::new, x -> x.read(0, 0));
        Check.answers("the first object", 0, () -> Keepers.oneFormat().deposit(0, 0, 1));
    }

    @Holds(in = "Promise 1", says = "Creates a keeper without formats and objects.")
    static void newKeeperHasNoUnits() {
        Fixityhall x = new Fixityhall();
        Check.answers("units", 0, x::units);
        Check.answers("lacking", 0, x::lacking);
        Check.answers("replicate", 0, x::replicate);
        Check.answers("atRisk", 0, () -> x.atRisk(0));
        Check.answers("toggleSite", 0, () -> x.toggleSite(0));
        Twin.refuses("sites", Check.INDEX, Fixityhall::new, y -> y.sites(0));
        Twin.refuses("sound", Check.INDEX, Fixityhall::new, y -> y.sound(0));
        Twin.refuses("damage", Check.INDEX, Fixityhall::new, y -> y.damage(0, 0, 1) ? 1 : 0);
        Twin.refuses("audit", Check.STATE, Fixityhall::new, y -> y.audit(1));
    }

    // ---- promise 2: addFormat

    @Holds(in = "Promise 2", says = "Adds a format.")
    static void addFormatAddsOneFormat() {
        Fixityhall x = new Fixityhall();
        x.addFormat(5);
        Check.answers("it is there", 0, () -> x.bestWay(0, 0));
        Check.refuses("no other one is", Check.INDEX, () -> x.bestWay(1, 1));
    }

    @Holds(in = "Promise 2", says = "`risk`: 0 to 100")
    static void addFormatTakesTheRisks0And100() {
        Fixityhall x = new Fixityhall();
        Check.answers("risk 0", 0, () -> x.addFormat(0));
        Check.answers("risk 100", 1, () -> x.addFormat(100));
        Check.answers("it was 0", 0, () -> x.setRisk(0, 50));
        Check.answers("it was 100", 100, () -> x.setRisk(1, 50));
    }

    @Holds(in = "Promise 2", says = "Returns number of the format.")
    static void addFormatNumbersFrom0To7() {
        Fixityhall x = new Fixityhall();
        for (int i = 0; i < 8; i++) {
            Check.answers("format", i, () -> x.addFormat(33));
        }
    }

    @Holds(in = "Promise 2", says = "Throws `IllegalArgumentException` if risk is out of range")
    static void addFormatRefusesRisksBelow0() {
        Twin.refusesEach("risk", Check.ARGUMENT, Keepers::oneFormat, BELOW_0, Fixityhall::addFormat);
    }

    @Holds(in = "Promise 2", says = "Throws `IllegalArgumentException` if risk is out of range")
    static void addFormatRefusesRisksAbove100() {
        Twin.refusesEach("risk", Check.ARGUMENT, Keepers::oneFormat, ABOVE_100, Fixityhall::addFormat);
    }

    @Holds(in = "Promise 2", says = "Throws `IllegalStateException` if there are 8 formats")
    static void addFormatTakesAnEighthFormat() {
        Check.answers("with 7 formats", 7, () -> Keepers.withFormats(7).addFormat(5));
    }

    @Holds(in = "Promise 2", says = "Throws `IllegalStateException` if there are 8 formats")
    static void addFormatRefusesANinthFormat() {
        Twin.refuses("with 8 formats", Check.STATE, Keepers::allFormats, x -> x.addFormat(5));
    }

    // ---- promise 3: setRisk

    @Holds(in = "Promise 3", says = "Sets the risk of a format.")
    static void setRiskSetsThatOfOneFormatOnly() {
        Fixityhall x = Keepers.withFormats(3);
        x.setRisk(1, 77);
        Check.answers("the format before", 0, () -> x.setRisk(0, 0));
        Check.answers("the format itself", 77, () -> x.setRisk(1, 77));
        Check.answers("the format behind", 20, () -> x.setRisk(2, 20));
    }

    @Holds(in = "Promise 3", says = "`format`: a format")
    static void setRiskTakesTheFirstAndTheLastFormat() {
        Fixityhall x = Keepers.allFormats();
        Check.answers("the first one", 0, () -> x.setRisk(0, 1));
        Check.answers("the last one", 70, () -> x.setRisk(7, 1));
    }

    @Holds(in = "Promise 3", says = "`risk`: 0 to 100")
    static void setRiskTakesTheRisks0And100() {
        Fixityhall x = Keepers.withFormats(3);
        Check.answers("to 100", 10, () -> x.setRisk(1, 100));
        Check.answers("to 0", 100, () -> x.setRisk(1, 0));
        Check.answers("it was 0", 0, () -> x.setRisk(1, 5));
    }

    @Holds(in = "Promise 3", says = "Returns the risk before.")
    static void setRiskAnswersTheRiskBeforeAlsoIfItIsTheSame() {
        Fixityhall x = Keepers.withFormats(2);
        Check.answers("the first risk", 10, () -> x.setRisk(1, 40));
        Check.answers("the risk set", 40, () -> x.setRisk(1, 40));
        Check.answers("the same risk", 40, () -> x.setRisk(1, 41));
    }

    @Holds(in = "Promise 3", says = "Throws `IllegalArgumentException` if risk is out of range")
    static void setRiskRefusesRisksBelow0() {
        Twin.refusesEach("risk", Check.ARGUMENT, Keepers::busy, BELOW_0, (x, wrong) -> x.setRisk(0, wrong));
    }

    @Holds(in = "Promise 3", says = "Throws `IllegalArgumentException` if risk is out of range")
    static void setRiskRefusesRisksAbove100() {
        Twin.refusesEach("risk", Check.ARGUMENT, Keepers::busy, ABOVE_100, (x, wrong) -> x.setRisk(0, wrong));
    }

    @Holds(in = "Promise 3", says = "Throws `IndexOutOfBoundsException` if there is no such format")
    static void setRiskRefusesFormatsThatAreNotThere() {
        Twin.refusesEach("format", Check.INDEX, Keepers::busy, NO_FORMAT_OF_3, (x, wrong) -> x.setRisk(wrong, 5));
        Twin.refuses("a ninth one of 8", Check.INDEX, Keepers::allFormats, x -> x.setRisk(8, 5));
    }

    // ---- promise 4: addConversion

    @Holds(in = "Promise 4", says = "Adds a conversion, in place of one between the same formats.")
    static void addConversionReplacesBySmallerAndByGreaterLoss() {
        Fixityhall x = Keepers.withFormats(2);
        x.addConversion(0, 1, 50);
        Check.answers("smaller", 20, () -> x.addConversion(0, 1, 20));
        Check.answers("greater", 90, () -> x.addConversion(0, 1, 90));
        Check.answers("only the last one counts", 9001, () -> x.bestWay(0, 1));
    }

    @Holds(in = "Promise 4", says = "in place of one between the same formats.")
    static void addConversionLeavesTheOppositeOne() {
        Fixityhall x = Keepers.withFormats(2);
        x.addConversion(0, 1, 50);
        x.addConversion(1, 0, 7);
        Check.answers("there", 5001, () -> x.bestWay(0, 1));
        Check.answers("back", 701, () -> x.bestWay(1, 0));
    }

    @Holds(in = "Promise 4", says = "`from`: a format")
    static void addConversionLeadsFromTheFirstAndTheLastFormat() {
        Fixityhall x = Keepers.allFormats();
        Check.answers("from the first one", 3, () -> x.addConversion(0, 4, 3));
        Check.answers("from the last one", 4, () -> x.addConversion(7, 4, 4));
    }

    @Holds(in = "Promise 4", says = "`to`: another format")
    static void addConversionLeadsToTheFirstAndTheLastFormat() {
        Fixityhall x = Keepers.allFormats();
        Check.answers("to the last one", 3, () -> x.addConversion(0, 7, 3));
        Check.answers("to the first one", 4, () -> x.addConversion(7, 0, 4));
    }

    @Holds(in = "Promise 4", says = "`loss`: 0 to 100")
    static void addConversionTakesTheLosses0And100() {
        Fixityhall x = Keepers.withFormats(2);
        Check.answers("loss 0", 0, () -> x.addConversion(0, 1, 0));
        Check.answers("a way without loss", 1, () -> x.bestWay(0, 1));
        Check.answers("loss 100", 100, () -> x.addConversion(0, 1, 100));
        Check.answers("a way of loss 100", 10001, () -> x.bestWay(0, 1));
    }

    @Holds(in = "Promise 4", says = "Returns the sum of losses of the best way from from to to then.")
    static void addConversionAnswersABetterWayThanItself() {
        Fixityhall x = Keepers.withFormats(3);
        x.addConversion(0, 1, 10);
        x.addConversion(1, 2, 20);
        Check.answers("worse by 1", 30, () -> x.addConversion(0, 2, 31));
        Check.answers("the same", 30, () -> x.addConversion(0, 2, 30));
        Check.answers("better by 1", 29, () -> x.addConversion(0, 2, 29));
    }

    @Holds(in = "Promise 4", says = "Returns the sum of losses of the best way from from to to then.")
    static void addConversionAnswersTheSumForItsOwnFormatsThen() {
        Fixityhall x = Keepers.withFormats(3);
        x.addConversion(0, 1, 10);
        x.addConversion(0, 2, 90);
        Check.answers("that from 1 to 2, not from 0", 20, () -> x.addConversion(1, 2, 20));
        Check.answers("what was better is replaced", 80, () -> x.addConversion(1, 2, 80));
        Check.answers("the way over 1 is not the best one any more", 9001, () -> x.bestWay(0, 2));
    }

    @Holds(in = "Promise 4", says = "Throws `IllegalArgumentException` if loss is out of range")
    static void addConversionRefusesLossesBelow0() {
        Twin.refusesEach("loss", Check.ARGUMENT, Keepers::busy, BELOW_0, (x, wrong) -> x.addConversion(0, 1, wrong));
    }

    @Holds(in = "Promise 4", says = "Throws `IllegalArgumentException` if loss is out of range")
    static void addConversionRefusesLossesAbove100() {
        Twin.refusesEach("loss", Check.ARGUMENT, Keepers::busy, ABOVE_100, (x, wrong) -> x.addConversion(0, 1, wrong));
    }

    @Holds(in = "Promise 4", says = "or both formats are the same")
    static void addConversionRefusesTheSameFormatTwice() {
        for (int format = 0; format < 3; format++) {
            int same = format;
            Twin.refuses("format " + same, Check.ARGUMENT, Keepers::busy, x -> x.addConversion(same, same, 0));
        }
    }

    @Holds(in = "Promise 4", says = "Throws `IndexOutOfBoundsException` if there is no such format")
    static void addConversionRefusesFromFormatsThatAreNotThere() {
        Twin.refusesEach("from", Check.INDEX, Keepers::busy, NO_FORMAT_OF_3, (x, wrong) -> x.addConversion(wrong, 0, 5));
        Twin.refuses("from a ninth one of 8", Check.INDEX, Keepers::allFormats, x -> x.addConversion(8, 0, 5));
    }

    @Holds(in = "Promise 4", says = "Throws `IndexOutOfBoundsException` if there is no such format")
    static void addConversionRefusesToFormatsThatAreNotThere() {
        Twin.refusesEach("to", Check.INDEX, Keepers::busy, NO_FORMAT_OF_3, (x, wrong) -> x.addConversion(0, wrong, 5));
        Twin.refuses("to a ninth one of 8", Check.INDEX, Keepers::allFormats, x -> x.addConversion(0, 8, 5));
    }

    // ---- promise 5: bestWay

    @Holds(in = "Promise 5", says = "Returns the best way between two formats.")
    static void bestWayGoesByWhatIsThereNow() {
        Fixityhall x = Keepers.withFormats(3);
        Check.answers("none yet", -1, () -> x.bestWay(0, 2));
        x.addConversion(0, 1, 4);
        Check.answers("half of it", -1, () -> x.bestWay(0, 2));
        x.addConversion(1, 2, 6);
        Check.answers("over 1", 1002, () -> x.bestWay(0, 2));
        x.addConversion(0, 2, 3);
        Check.answers("straight", 301, () -> x.bestWay(0, 2));
        x.addConversion(0, 2, 11);
        Check.answers("over 1 again", 1002, () -> x.bestWay(0, 2));
    }

    @Holds(in = "Promise 5", says = "`from`: a format")
    static void bestWayLeadsFromTheFirstAndTheLastFormat() {
        Fixityhall x = Keepers.allFormats();
        x.addConversion(0, 3, 1);
        x.addConversion(7, 3, 2);
        Check.answers("from the first one", 101, () -> x.bestWay(0, 3));
        Check.answers("from the last one", 201, () -> x.bestWay(7, 3));
    }

    @Holds(in = "Promise 5", says = "`to`: a format")
    static void bestWayLeadsToTheFirstAndTheLastFormat() {
        Fixityhall x = Keepers.allFormats();
        x.addConversion(3, 0, 1);
        x.addConversion(3, 7, 2);
        Check.answers("to the first one", 101, () -> x.bestWay(3, 0));
        Check.answers("to the last one", 201, () -> x.bestWay(3, 7));
    }

    @Holds(in = "Promise 5", says = "Returns 100 * sum of losses + number of conversions")
    static void bestWayCountsSevenConversionsOfTheGreatestLoss() {
        Fixityhall up = Keepers.allFormats();
        Fixityhall down = Keepers.allFormats();
        for (int i = 0; i < 7; i++) {
            up.addConversion(i, i + 1, 100);
            down.addConversion(i + 1, i, 100);
        }
        Check.answers("by rising format", 70007, () -> up.bestWay(0, 7));
        Check.answers("by falling format", 70007, () -> down.bestWay(7, 0));
        Check.answers("told by addConversion", 100, () -> up.addConversion(0, 1, 100));
    }

    @Holds(in = "Promise 5", says = "Returns 100 * sum of losses + number of conversions")
    static void bestWayCountsConversionsWithoutLoss() {
        Fixityhall x = Keepers.allFormats();
        int[] row = {3, 6, 0, 7, 1, 5, 2, 4};
        for (int i = 0; i < 7; i++) {
            x.addConversion(row[i], row[i + 1], 0);
        }
        Check.answers("seven of them", 7, () -> x.bestWay(3, 4));
        Check.answers("one of them", 1, () -> x.bestWay(3, 6));
    }

    @Holds(in = "Promise 5", says = "0 for the same format")
    static void bestWayIs0ForTheSameFormatAlsoInARing() {
        Fixityhall x = Keepers.allFormats();
        x.addConversion(0, 7, 0);
        x.addConversion(7, 0, 0);
        for (int i = 0; i < 8; i++) {
            int same = i;
            Check.answers("format " + i, 0, () -> x.bestWay(same, same));
        }
    }

    @Holds(in = "Promise 5", says = "-1 if there is no way.")
    static void bestWayIsMinus1WithoutAnyConversion() {
        Fixityhall x = Keepers.allFormats();
        Check.answers("up", -1, () -> x.bestWay(0, 7));
        Check.answers("down", -1, () -> x.bestWay(7, 0));
    }

    @Holds(in = "Promise 5", says = "-1 if there is no way.")
    static void bestWayIsMinus1AgainstTheConversions() {
        Fixityhall x = Keepers.withFormats(3);
        x.addConversion(0, 1, 0);
        x.addConversion(1, 2, 0);
        Check.answers("against one", -1, () -> x.bestWay(1, 0));
        Check.answers("against two", -1, () -> x.bestWay(2, 0));
    }

    @Holds(in = "Promise 5", says = "Throws `IndexOutOfBoundsException` if there is no such format")
    static void bestWayRefusesFromFormatsThatAreNotThere() {
        Twin.refusesEach("from", Check.INDEX, Keepers::busy, NO_FORMAT_OF_3, (x, wrong) -> x.bestWay(wrong, 0));
        Twin.refuses("from a ninth one of 8", Check.INDEX, Keepers::allFormats, x -> x.bestWay(8, 0));
    }

    @Holds(in = "Promise 5", says = "Throws `IndexOutOfBoundsException` if there is no such format")
    static void bestWayRefusesToFormatsThatAreNotThere() {
        Twin.refusesEach("to", Check.INDEX, Keepers::busy, NO_FORMAT_OF_3, (x, wrong) -> x.bestWay(0, wrong));
        Twin.refuses("to a ninth one of 8", Check.INDEX, Keepers::allFormats, x -> x.bestWay(0, 8));
    }

    @Holds(in = "Promise 5", says = "Throws `IndexOutOfBoundsException` if there is no such format")
    static void bestWayRefusesTheSameFormatIfItIsNotThere() {
        Twin.refusesEach("both", Check.INDEX, Keepers::busy, NO_FORMAT_OF_3, (x, wrong) -> x.bestWay(wrong, wrong));
    }

    // ---- terms: conversions

    @Holds(in = "Terms", says = "A conversion leads from a format to another one, with a loss.")
    static void aConversionLeadsOneWayOnly() {
        Fixityhall x = Keepers.withFormats(2);
        x.addConversion(1, 0, 12);
        Check.answers("its way", 1201, () -> x.bestWay(1, 0));
        Check.answers("the other way", -1, () -> x.bestWay(0, 1));
    }

    @Holds(in = "Terms", says = "each from the format to which the one before leads.")
    static void conversionsThatDoNotJoinAreNoWay() {
        Fixityhall x = Keepers.withFormats(4);
        x.addConversion(0, 1, 0);
        x.addConversion(2, 3, 0);
        Check.answers("a gap between 1 and 2", -1, () -> x.bestWay(0, 3));
        x.addConversion(2, 1, 0);
        Check.answers("both lead to 1", -1, () -> x.bestWay(0, 3));
        x.addConversion(1, 2, 0);
        Check.answers("joined", 3, () -> x.bestWay(0, 3));
    }

    @Holds(in = "Terms", says = "is the one with the least sum of losses")
    static void sevenConversionsOfLessLossGoBeforeOne() {
        Fixityhall x = Keepers.allFormats();
        for (int i = 0; i < 7; i++) {
            x.addConversion(i, i + 1, 14);
        }
        x.addConversion(0, 7, 99);
        Check.answers("98 in seven before 99 in one", 9807, () -> x.bestWay(0, 7));
    }

    @Holds(in = "Terms", says = "of several the one with the fewest conversions.")
    static void ofEqualSumsTheFewestConversionsGoFirst() {
        Fixityhall x = Keepers.allFormats();
        for (int i = 0; i < 7; i++) {
            x.addConversion(i, i + 1, 0);
        }
        Check.answers("seven", 7, () -> x.bestWay(0, 7));
        x.addConversion(2, 6, 0);
        Check.answers("four", 4, () -> x.bestWay(0, 7));
        x.addConversion(0, 7, 0);
        Check.answers("one", 1, () -> x.bestWay(0, 7));
    }
}
