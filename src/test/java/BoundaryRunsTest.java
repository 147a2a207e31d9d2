/** The boundary cases of runs, previews and returns, sentence by sentence. */
public final class BoundaryRunsTest {
    private static final Class<IllegalArgumentException> ARGUMENT = IllegalArgumentException.class;
    private static final Class<IllegalStateException> STATE = IllegalStateException.class;
    private static final Class<IndexOutOfBoundsException> INDEX = IndexOutOfBoundsException.class;
    private static final char[] REASONS = {'m', 'd', 'o'};
    private static final char[] NO_WAY_BACK = {'o', '-', 'l', 's', 'U', 'M', 'D', 0, 'u' + 256, 65535};

    public static void main(String[] args) {
        run();
        runRefused();
        strikesOfTheRunBefore();
        lettersThatClearNothing();
        preview();
        previewAlone();
        suppressedAndBad();
        empty();
        households();
        householdsThatDoNotCount();
        stock();
        stockThatIsUsedUp();
        theFirstThatApplies();
        outcome();
        comesBack();
        comesBackRefused();
        whatAReturnChanges();
        returnsAfterChanges();
        setBound();
        Sentences.end("BoundaryRunsTest", 19, 24);
    }

    /** The outcomes of a run made now; both previews must have told the same before it. */
    private static String outcomesNow(Mailmerge made, int template, boolean byHouseholds, int people) {
        String previews = Scenes.previews(made, template, byHouseholds, people);
        String alone = Scenes.previewsAlone(made, template, byHouseholds, people);
        int run = made.run(template, byHouseholds);
        String outcomes = Scenes.outcomes(made, run, people);
        Check.same("preview", previews, outcomes);
        Check.same("previewAlone", alone, outcomes);
        Check.same("isSound", made.isSound(), true);
        return outcomes;
    }

    private static void run() {
        Sentences.holds(19, "Returns the number of the run.", () -> {
            Mailmerge made = Scenes.stocked(0);
            made.addTemplate();
            for (int number = 0; number < 10; number++) {
                Check.same("the number", made.run(number % 2, number % 3 == 0), number);
            }
        });
        Sentences.holds(Sentences.TERMS, "At most 10 runs are made, numbered from 0.", () -> {
            Mailmerge made = Scenes.ran(1, 10);
            for (int run = 0; run < 10; run++) {
                Check.same("letters", made.letters(run), 1);
            }
            Check.refuses("one more", INDEX, () -> made.letters(10));
        });
        Sentences.holds(19, "Makes a run.", () -> {
            Mailmerge made = Scenes.templates(4);
            Check.same("of the last template, without people", made.run(3, true), 0);
            Check.same("letters", made.letters(0), 0);
            Check.same("with 24 people", outcomesNow(Scenes.stocked(24), 0, false, 24), "llllllllllllllllllllllll");
        });
    }

    private static void runRefused() {
        Sentences.holds(19, "Throws `IndexOutOfBoundsException` if there is no such template", () -> {
            for (int wrong : Sentences.noIndex(1)) {
                Sentences.refused(() -> Scenes.struck(3, 2), INDEX, made -> made.run(wrong, false));
            }
            Sentences.refused(Mailmerge::new, INDEX, made -> made.run(0, false));
            Sentences.refused(() -> Scenes.templates(4), INDEX, made -> made.run(4, true));
        });
        Sentences.holds(19, "Throws `IllegalStateException` if there are 10 runs", () -> {
            Check.same("the tenth", Scenes.ran(1, 9).run(0, false), 9);
            Sentences.refused(BoundaryRunsTest::tenRunsAndAStrike, STATE, made -> made.run(0, false));
            Sentences.refused(BoundaryRunsTest::tenRunsAndAStrike, STATE, made -> made.run(0, true));
        });
        Sentences.holds(Sentences.TERMS, "the exception that is listed first is thrown", () -> {
            Sentences.refused(BoundaryRunsTest::tenRunsAndAStrike, INDEX, made -> made.run(1, false));
            Sentences.refused(BoundaryRunsTest::tenRunsAndAStrike, INDEX, made -> made.run(-1, false));
        });
    }

    private static Mailmerge tenRunsAndAStrike() {
        Mailmerge made = Scenes.ran(2, 10);
        made.comesBack(9, 0, 'u');
        return made;
    }

    private static void strikesOfTheRunBefore() {
        Sentences.holds(Sentences.TERMS, "for each letter of the run before that has not come back", () -> {
            Mailmerge some = Scenes.struck(3, 2);
            Check.same("two of three came back", outcomesNow(some, 0, false, 3), "lll");
            Check.same("strikes", some.strikes(0), 0);
            Mailmerge all = Scenes.struck(3, 3);
            Check.same("all came back", outcomesNow(all, 0, false, 3), "bbb");
            Check.same("strikes", all.strikes(0), 3);
        });
        Sentences.holds(Sentences.TERMS, "the strikes of the address that its person has now become 0", () -> {
            Mailmerge made = Scenes.struck(3, 2);
            made.addAddress(50);
            made.move(2, 1);
            Check.same("the address of then", outcomesNow(made, 0, false, 3), "bbl");
            Check.same("strikes", made.strikes(0), 2);
        });
        Sentences.holds(Sentences.TERMS, "of the address that its person has now", () -> {
            Mailmerge made = Scenes.struck(2, 2);
            made.addAddress(50);
            made.addPerson(1, 0);
            made.run(0, false);
            made.move(2, 0);
            made.suppress(2, 'o');
            Check.same("the address of now, though suppressed", outcomesNow(made, 0, false, 3), "lls");
            Check.same("strikes", made.strikes(0), 0);
        });
        Sentences.holds(Sentences.TERMS, "When a run begins", () -> {
            Mailmerge made = Scenes.struck(3, 1);
            made.preview(0, false, 0);
            made.previewAlone(0, false, 0);
            made.isSound();
            Check.same("a preview begins no run", made.strikes(0), 1);
            made.run(0, false);
            Check.same("a run does", made.strikes(0), 0);
        });
    }

    private static void lettersThatClearNothing() {
        Sentences.holds(Sentences.TERMS, "for each letter of the run before", () -> {
            Mailmerge made = Scenes.ran(3, 1);
            for (int person = 0; person < 3; person++) {
                made.suppress(person, 'o');
            }
            made.run(0, false);
            for (int person = 0; person < 2; person++) {
                made.comesBack(0, person, 'u');
                made.allow(person);
            }
            Check.same("a letter of the run before that one", outcomesNow(made, 0, false, 3), "bbs");
            Check.same("strikes", made.strikes(0), 2);
        });
        Sentences.holds(Sentences.TERMS, "that has not come back", () -> {
            Mailmerge made = Scenes.struck(4, 2);
            made.comesBack(0, 2, 'm');
            made.comesBack(0, 3, 'd');
            made.move(2, 0);
            Check.same("moved and dead ones came back too", outcomesNow(made, 0, false, 4), "bbbs");
        });
        Sentences.holds(Sentences.TERMS, "for each letter of the run before that", () -> {
            Mailmerge made = Scenes.struck(2, 2);
            made.addPerson(0, 0);
            Check.same("one who got no letter", outcomesNow(made, 0, false, 3), "bbb");
            Check.same("a run without letters before", outcomesNow(made, 0, false, 3), "bbb");
            Check.same("strikes", made.strikes(0), 2);
        });
    }

    private static void preview() {
        Sentences.holds(20, "Throws `IndexOutOfBoundsException` if there is no such template or no such person", () -> {
            for (int wrong : Sentences.noIndex(1)) {
                Sentences.refused(() -> Scenes.struck(1, 1), INDEX, made -> made.preview(wrong, false, 0));
                Sentences.refused(() -> Scenes.struck(1, 1), INDEX, made -> made.preview(0, true, wrong));
            }
            Sentences.refused(() -> Scenes.people(1), INDEX, made -> made.preview(0, false, 0));
            Sentences.refused(() -> Scenes.templates(1), INDEX, made -> made.preview(0, false, 0));
            Sentences.refused(() -> Scenes.stocked(24), INDEX, made -> made.preview(4, false, 23));
            Sentences.refused(() -> Scenes.stocked(24), INDEX, made -> made.preview(0, false, 24));
        });
        Sentences.holds(20, "Returns what the outcome for a person would be in a run that was made now", () -> {
            Check.same("the last one of 24", Scenes.stocked(24).preview(0, false, 23), 'l');
            Check.same("after ten runs", Scenes.ran(1, 10).preview(0, false, 0), 'l');
            Mailmerge made = Scenes.stocked(1);
            String before = Trace.of(Scenes.stocked(1));
            made.preview(0, true, 0);
            Check.same("no run is made", Trace.of(made), before);
        });
        Sentences.holds(20, "with the strikes as they would be when it has begun, found by going through all people",
                () -> {
            Check.same("a letter arrived", Scenes.struck(3, 2).preview(0, false, 0), 'l');
            Check.same("no letter arrived", Scenes.struck(2, 2).preview(0, false, 0), 'b');
            Check.same("after ten runs", tenRunsAndTwoStrikes().preview(0, false, 0), 'l');
        });
    }

    private static void previewAlone() {
        Sentences.holds(21, "Throws `IndexOutOfBoundsException` if there is no such template or no such person", () -> {
            for (int wrong : Sentences.noIndex(1)) {
                Sentences.refused(() -> Scenes.struck(1, 1), INDEX, made -> made.previewAlone(wrong, false, 0));
                Sentences.refused(() -> Scenes.struck(1, 1), INDEX, made -> made.previewAlone(0, true, wrong));
            }
            Sentences.refused(() -> Scenes.people(1), INDEX, made -> made.previewAlone(0, false, 0));
            Sentences.refused(() -> Scenes.templates(1), INDEX, made -> made.previewAlone(0, false, 0));
            Sentences.refused(() -> Scenes.stocked(24), INDEX, made -> made.previewAlone(4, false, 23));
            Sentences.refused(() -> Scenes.stocked(24), INDEX, made -> made.previewAlone(0, false, 24));
        });
        Sentences.holds(21, "Returns the same outcome, worked out for this person alone.", () -> {
            Check.same("the last one of 24", Scenes.stocked(24).previewAlone(0, false, 23), 'l');
            Check.same("after ten runs", Scenes.ran(1, 10).previewAlone(0, false, 0), 'l');
            Check.same("a letter arrived", Scenes.struck(3, 2).previewAlone(0, false, 0), 'l');
            Check.same("no letter arrived", Scenes.struck(2, 2).previewAlone(0, false, 0), 'b');
            Check.same("after ten runs", tenRunsAndTwoStrikes().previewAlone(0, false, 0), 'l');
            Mailmerge made = Scenes.stocked(1);
            String before = Trace.of(Scenes.stocked(1));
            made.previewAlone(0, true, 0);
            Check.same("no run is made", Trace.of(made), before);
        });
    }

    private static Mailmerge tenRunsAndTwoStrikes() {
        Mailmerge made = Scenes.ran(3, 10);
        made.comesBack(9, 0, 'u');
        made.comesBack(9, 1, 'u');
        return made;
    }

    private static void suppressedAndBad() {
        Sentences.holds(Sentences.TERMS, "'s' if the person is suppressed", () -> {
            Mailmerge made = Scenes.stocked(5);
            for (int person = 0; person < 3; person++) {
                made.suppress(person, REASONS[person]);
            }
            made.suppress(3, 'o');
            made.allow(3);
            Check.same("outcomes", outcomesNow(made, 0, false, 5), "sssll");
        });
        Sentences.holds(Sentences.TERMS, "'b' if the address is bad", () -> {
            Mailmerge made = Scenes.struck(2, 2);
            made.addAddress(0);
            made.addPerson(1, 0);
            Check.same("outcomes", outcomesNow(made, 0, false, 3), "bbl");
        });
        Sentences.holds(Sentences.TERMS, "it is bad if it has 2 strikes or more", () -> {
            Check.same("0 strikes", outcomesNow(Scenes.stocked(1), 0, false, 1), "l");
            Check.same("1 strike", outcomesNow(Scenes.struck(1, 1), 0, false, 1), "l");
            Check.same("2 strikes", outcomesNow(Scenes.struck(2, 2), 0, false, 2), "bb");
            Check.same("3 strikes", outcomesNow(Scenes.struck(3, 3), 0, false, 3), "bbb");
        });
    }

    private static void empty() {
        Sentences.holds(Sentences.TERMS, "'e' if the letter would have no parts", () -> {
            Mailmerge made = Scenes.stocked(1);
            made.addTemplate();
            Check.same("a template without parts", outcomesNow(made, 1, false, 1), "e");
            made.addTemplate();
            made.addPart(2, 1, 1, 2);
            made.setFlags(0, 1);
            made.addPerson(0, 0);
            made.addPerson(0, 3);
            Check.same("parts for others", outcomesNow(made, 2, false, 3), "lee");
        });
    }

    /** A template with a part for all who don't have flag 0. */
    private static Mailmerge household(int... flags) {
        Mailmerge made = Scenes.templates(1);
        made.addPart(0, 40, 0, 1);
        Scenes.buyPlenty(made);
        made.addAddress(10);
        made.addAddress(10);
        for (int each : flags) {
            made.addPerson(0, each);
        }
        return made;
    }

    private static void households() {
        Sentences.holds(Sentences.TERMS, "'h', in a run by households alone", () -> {
            Check.same("by households", outcomesNow(household(0, 0), 0, true, 2), "lh");
            Check.same("not by households", outcomesNow(household(0, 0), 0, false, 2), "ll");
        });
        Sentences.holds(Sentences.TERMS, "if there is another person with a lower number and the same address", () -> {
            Check.same("a single one", outcomesNow(household(0), 0, true, 1), "l");
            Check.same("the lowest number", outcomesNow(household(0, 0, 0), 0, true, 3), "lhh");
            Mailmerge made = household(0, 0, 0);
            made.move(0, 1);
            Check.same("another address of the same code", outcomesNow(made, 0, true, 3), "llh");
        });
        Sentences.holds(Sentences.TERMS, "with a lower number and the same address", () -> {
            Mailmerge made = household(0, 0);
            made.move(1, 1);
            made.join(1, 0);
            Check.same("joined", outcomesNow(made, 0, true, 2), "lh");
            Check.same("24 at one address", outcomesNow(Scenes.stocked(24), 0, true, 24), "lhhhhhhhhhhhhhhhhhhhhhhh");
        });
    }

    private static void householdsThatDoNotCount() {
        Sentences.holds(Sentences.TERMS, "who is not suppressed", () -> {
            for (char reason : REASONS) {
                Mailmerge made = household(0, 0, 0);
                made.suppress(0, reason);
                Check.same("the first one is suppressed", outcomesNow(made, 0, true, 3), "slh");
            }
        });
        Sentences.holds(Sentences.TERMS, "and the letter to that other person would have parts", () -> {
            Check.same("no parts for the first one", outcomesNow(household(1, 0, 0), 0, true, 3), "elh");
            Check.same("no parts for the second one", outcomesNow(household(0, 1, 0), 0, true, 3), "leh");
        });
        Sentences.holds(Sentences.TERMS, "if there is another person", () -> {
            Mailmerge poor = Scenes.templates(1);
            poor.addPart(0, 40, 0, 0);
            poor.addAddress(0);
            Scenes.addPeople(poor, 2);
            Check.same("one who gets none for want of stock counts", outcomesNow(poor, 0, true, 2), "ph");
        });
    }

    /** One person, a letter of so many full pages, and this stock. */
    private static char withStock(int pages, int sheets, int small, int large) {
        Mailmerge made = Scenes.people(1);
        made.addTemplate();
        for (int i = 0; i < pages; i++) {
            made.addPart(0, 40, 0, 0);
        }
        buy(made, sheets, small, large);
        return outcomesNow(made, 0, false, 1).charAt(0);
    }

    private static void buy(Mailmerge made, int sheets, int small, int large) {
        if (sheets > 0) {
            made.buyPaper(sheets);
        }
        if (small > 0) {
            made.buyEnvelopes(false, small);
        }
        if (large > 0) {
            made.buyEnvelopes(true, large);
        }
    }

    private static void stock() {
        Sentences.holds(Sentences.TERMS, "'p' if the paper or the envelopes that are left do not suffice for the letter",
                () -> {
            Check.same("no stock", withStock(1, 0, 0, 0), 'p');
            Check.same("no paper", withStock(1, 0, 1, 0), 'p');
            Check.same("no envelope", withStock(1, 1, 0, 0), 'p');
            Check.same("a large envelope for a small letter", withStock(3, 9, 0, 9), 'p');
            Check.same("a small envelope for a large letter", withStock(4, 9, 9, 0), 'p');
            Check.same("a sheet too few", withStock(3, 2, 1, 1), 'p');
            Check.same("a sheet too few", withStock(8, 7, 1, 1), 'p');
        });
        Sentences.holds(Sentences.TERMS, "otherwise 'l': the letter is made", () -> {
            Check.same("one page", withStock(1, 1, 1, 0), 'l');
            Check.same("three pages", withStock(3, 3, 1, 0), 'l');
            Check.same("four pages", withStock(4, 4, 0, 1), 'l');
            Check.same("eight pages", withStock(8, 8, 0, 1), 'l');
        });
    }

    /** A letter of one page, of three with flag 0 and of five with flags 0 and 1. */
    private static Mailmerge threeSizes(int... flags) {
        Mailmerge made = Scenes.templates(1);
        int[] needs = {0, 1, 1, 3, 3};
        for (int each : needs) {
            made.addPart(0, 40, each, 0);
        }
        made.addAddress(10);
        for (int each : flags) {
            made.addPerson(0, each);
        }
        return made;
    }

    private static void stockThatIsUsedUp() {
        Sentences.holds(Sentences.TERMS, "its paper and its envelope are used up", () -> {
            Mailmerge made = threeSizes(0, 1, 3);
            buy(made, 9, 2, 1);
            Check.same("just enough", outcomesNow(made, 0, false, 3), "lll");
            Check.same("stock left", made.paper() + made.envelopes(false) + made.envelopes(true), 0);
        });
        Sentences.holds(Sentences.TERMS, "the paper or the envelopes that are left", () -> {
            Mailmerge fewSheets = threeSizes(1, 1);
            buy(fewSheets, 5, 2, 2);
            Check.same("a sheet too few is left", outcomesNow(fewSheets, 0, false, 2), "lp");
            Mailmerge fewEnvelopes = threeSizes(3, 1, 1, 3);
            buy(fewEnvelopes, 99, 1, 1);
            Check.same("no envelope is left", outcomesNow(fewEnvelopes, 0, false, 4), "llpp");
        });
        Sentences.holds(Sentences.TERMS, "the letter is made, and its paper and its envelope are used up", () -> {
            Mailmerge made = threeSizes(3, 1, 0);
            buy(made, 4, 2, 0);
            Check.same("no letter takes nothing", outcomesNow(made, 0, false, 3), "pll");
            Check.same("paper", made.paper(), 0);
            Mailmerge other = threeSizes(3, 1);
            buy(other, 4, 1, 1);
            Check.same("a sheet too few", outcomesNow(other, 0, false, 2), "pl");
            Check.same("its envelope stays", other.envelopes(true), 1);
        });
        Sentences.holds(Sentences.TERMS, "People are gone through by rising numbers.", () -> {
            Mailmerge codes = threeSizes(0, 0);
            codes.addAddress(0);
            codes.move(1, 1);
            buy(codes, 1, 1, 0);
            Check.same("not by codes", outcomesNow(codes, 0, false, 2), "lp");
            Mailmerge poor = threeSizes(0, 0, 0);
            buy(poor, 1, 1, 0);
            Check.same("paper for the first one", outcomesNow(poor, 0, false, 3), "lpp");
        });
    }

    private static void theFirstThatApplies() {
        Sentences.holds(Sentences.TERMS, "the outcome for a person is the first one of these that applies", () -> {
            Mailmerge made = Scenes.struck(2, 2);
            made.addTemplate();
            made.suppress(1, 'o');
            Check.same("bad before empty, suppressed before bad", outcomesNow(made, 1, true, 2), "bs");
        });
        Sentences.holds(Sentences.TERMS, "is the first one of these that applies", () -> {
            Check.same("empty before household", outcomesNow(household(0, 1), 0, true, 2), "le");
            Mailmerge bad = Scenes.struck(2, 2);
            Check.same("bad before household", outcomesNow(bad, 0, true, 2), "bb");
            Mailmerge suppressed = household(0, 0);
            suppressed.suppress(1, 'd');
            Check.same("suppressed before household", outcomesNow(suppressed, 0, true, 2), "ls");
        });
        Sentences.holds(21, "Returns the same outcome, worked out for this person alone.", () -> {
            Check.same("each outcome", outcomesNow(Scenes.beforeAllOutcomes(), 0, true, 7), "bselhpb");
            Check.same("not by households", outcomesNow(Scenes.beforeAllOutcomes(), 0, false, 7), "bselppb");
        });
        Sentences.holds(Sentences.TERMS, "the first one of these that applies", () -> {
            Mailmerge made = threeSizes(0, 0, 0);
            made.addTemplate();
            made.suppress(0, 'm');
            Check.same("household before stock", outcomesNow(made, 0, true, 3), "sph");
            Check.same("empty before stock", outcomesNow(made, 1, true, 3), "see");
        });
    }

    private static void outcome() {
        Sentences.holds(22, "Returns the outcome for a person in a run.", () -> {
            Mailmerge made = Scenes.stocked(24);
            made.suppress(0, 'o');
            for (int i = 0; i < 10; i++) {
                made.run(0, i % 2 == 1);
            }
            Check.same("the first one in the first run", made.outcome(0, 0), 's');
            Check.same("the last one in the first run", made.outcome(0, 23), 'l');
            Check.same("the first one in the last run", made.outcome(9, 0), 's');
            Check.same("the second one in the last run", made.outcome(9, 1), 'l');
            Check.same("the last one in the last run", made.outcome(9, 23), 'h');
        });
        Sentences.holds(22,
                "Throws `IndexOutOfBoundsException` if there is no such run, or the person was not there when it was made",
                () -> {
            for (int wrong : Sentences.noIndex(1)) {
                Sentences.refused(Scenes::oneCameLater, INDEX, made -> made.outcome(wrong, 0));
                Sentences.refused(Scenes::oneCameLater, INDEX, made -> made.outcome(0, wrong));
            }
            Sentences.refused(() -> Scenes.people(1), INDEX, made -> made.outcome(0, 0));
            Sentences.refused(() -> Scenes.ran(0, 1), INDEX, made -> made.outcome(0, 0));
            Sentences.refused(() -> Scenes.ran(24, 1), INDEX, made -> made.outcome(0, 24));
            Sentences.refused(() -> Scenes.ran(1, 10), INDEX, made -> made.outcome(10, 0));
        });
        Sentences.holds(22, "or the person was not there when it was made", () -> {
            Mailmerge made = Scenes.oneCameLater();
            made.run(0, false);
            Check.same("in the next run", made.outcome(1, 1), 'l');
            Check.refuses("in the run before", INDEX, () -> made.outcome(0, 1));
        });
    }

    private static void comesBack() {
        Sentences.holds(23, "- `how`: 'u', 'm' or 'd'", () -> {
            Mailmerge made = Scenes.ran(3, 1);
            made.comesBack(0, 0, 'u');
            made.comesBack(0, 1, 'm');
            made.comesBack(0, 2, 'd');
            Check.same("unknown", made.reasonOf(0), '-');
            Check.same("moved", made.reasonOf(1), 'm');
            Check.same("dead", made.reasonOf(2), 'd');
            Check.same("strikes", made.strikes(0), 1);
        });
        Sentences.holds(23, "Returns the number of letters of the run that have come back.", () -> {
            Mailmerge made = Scenes.ran(24, 2);
            for (int person = 0; person < 24; person++) {
                Check.same("of the run before", made.comesBack(0, person, "umd".charAt(person % 3)), person + 1);
            }
            Check.same("of the last run", made.comesBack(1, 23, 'u'), 1);
        });
        Sentences.holds(Sentences.TERMS, "A letter can come back once.", () -> {
            for (char first : new char[] {'u', 'm', 'd'}) {
                for (char second : new char[] {'u', 'm', 'd'}) {
                    Mailmerge made = Scenes.ran(1, 2);
                    made.comesBack(0, 0, first);
                    Check.refuses("a second time", STATE, () -> made.comesBack(0, 0, second));
                    Check.same("the one of the other run", made.comesBack(1, 0, second), 1);
                }
            }
        });
    }

    /** Letters to the people 0 and 1, of which the first came back; 2 is suppressed, 3 came later. */
    private static Mailmerge oneBack() {
        Mailmerge made = Scenes.stocked(3);
        made.suppress(2, 'o');
        made.run(0, false);
        made.addPerson(0, 0);
        made.comesBack(0, 0, 'u');
        return made;
    }

    private static void comesBackRefused() {
        Sentences.holds(23,
                "Throws `IndexOutOfBoundsException` if there is no such run, or the person was not there when it was made",
                () -> {
            for (int wrong : Sentences.noIndex(1)) {
                Sentences.refused(BoundaryRunsTest::oneBack, INDEX, made -> made.comesBack(wrong, 1, 'u'));
            }
            for (int wrong : Sentences.noIndex(3)) {
                Sentences.refused(BoundaryRunsTest::oneBack, INDEX, made -> made.comesBack(0, wrong, 'd'));
            }
            Sentences.refused(() -> Scenes.people(1), INDEX, made -> made.comesBack(0, 0, 'u'));
            Sentences.refused(() -> Scenes.ran(24, 1), INDEX, made -> made.comesBack(0, 24, 'm'));
            Sentences.refused(() -> Scenes.ran(1, 10), INDEX, made -> made.comesBack(10, 0, 'u'));
        });
        Sentences.holds(23, "Throws `IllegalArgumentException` if there is no such way to come back", () -> {
            for (char wrong : NO_WAY_BACK) {
                Sentences.refused(BoundaryRunsTest::oneBack, ARGUMENT, made -> made.comesBack(0, 1, wrong));
            }
        });
        Sentences.holds(23,
                "Throws `IllegalStateException` if no letter was made for the person in the run, or it has come back",
                () -> {
            for (char how : new char[] {'u', 'm', 'd'}) {
                Sentences.refused(BoundaryRunsTest::oneBack, STATE, made -> made.comesBack(0, 0, how));
                Sentences.refused(BoundaryRunsTest::oneBack, STATE, made -> made.comesBack(0, 2, how));
            }
        });
        Sentences.holds(23, "if no letter was made for the person in the run", () -> {
            Mailmerge made = Scenes.allOutcomes();
            Check.same("the outcomes", Scenes.outcomes(made, 1, 7), "bselhpb");
            for (int person : new int[] {0, 1, 2, 4, 5, 6}) {
                int other = person;
                Sentences.refused(Scenes::allOutcomes, STATE, again -> again.comesBack(1, other, 'u'));
            }
            Check.same("the letter", made.comesBack(1, 3, 'u'), 1);
        });
        Sentences.holds(Sentences.TERMS, "the exception that is listed first is thrown", () -> {
            Sentences.refused(BoundaryRunsTest::oneBack, INDEX, made -> made.comesBack(1, 0, 'o'));
            Sentences.refused(BoundaryRunsTest::oneBack, INDEX, made -> made.comesBack(0, 3, 'o'));
            Sentences.refused(BoundaryRunsTest::oneBack, ARGUMENT, made -> made.comesBack(0, 0, 'o'));
            Sentences.refused(BoundaryRunsTest::oneBack, ARGUMENT, made -> made.comesBack(0, 2, 'o'));
        });
    }

    private static void whatAReturnChanges() {
        Sentences.holds(Sentences.TERMS, "the address that its person has now gets one more strike", () -> {
            Mailmerge made = Scenes.struck(24, 0);
            for (int person = 0; person < 24; person++) {
                made.comesBack(0, person, 'u');
                Check.same("strikes", made.strikes(0), person + 1);
            }
        });
        Sentences.holds(Sentences.TERMS, "its person is suppressed by this, whatever held before", () -> {
            for (char how : new char[] {'m', 'd'}) {
                for (char before : REASONS) {
                    Mailmerge made = Scenes.ran(1, 1);
                    made.suppress(0, before);
                    made.comesBack(0, 0, how);
                    Check.same("the reason", made.reasonOf(0), how);
                    Check.same("strikes", made.strikes(0), 0);
                }
            }
        });
        Sentences.holds(Sentences.TERMS, "If it is returned as unknown, 'u'", () -> {
            for (char before : REASONS) {
                Mailmerge made = Scenes.ran(1, 1);
                made.suppress(0, before);
                made.comesBack(0, 0, 'u');
                Check.same("the reason is left", made.reasonOf(0), before);
                Check.same("strikes", made.strikes(0), 1);
            }
        });
    }

    private static void returnsAfterChanges() {
        Sentences.holds(Sentences.TERMS, "'u', the address that its person has now", () -> {
            Mailmerge moved = Scenes.ran(1, 1);
            moved.addAddress(50);
            moved.move(0, 1);
            moved.comesBack(0, 0, 'u');
            Check.same("the address of then", moved.strikes(0), 0);
            Check.same("the address of now", moved.strikes(1), 1);
            Mailmerge joined = Scenes.ran(1, 1);
            joined.addAddress(50);
            joined.join(1, 0);
            joined.comesBack(0, 0, 'u');
            Check.same("the joined address", joined.strikes(1), 1);
        });
    }

    /** The postage of one of so many letters of one page on one route. */
    private static int postageAt(int bound, int letters) {
        Mailmerge made = Scenes.stocked(letters);
        made.setBound(bound);
        made.run(0, false);
        return made.postage(0, 0);
    }

    private static void setBound() {
        Sentences.holds(24, "- `letters`: the bound, 1 to 24", () -> {
            Check.same("1, one letter", postageAt(1, 1), 64);
            Check.same("24, 23 letters", postageAt(24, 23), 80);
            Check.same("24, 24 letters", postageAt(24, 24), 64);
        });
        Sentences.holds(24, "Returns the bound before the call.", () -> {
            Mailmerge made = new Mailmerge();
            Check.same("at first", made.setBound(24), 3);
            Check.same("24", made.setBound(1), 24);
            Check.same("1", made.setBound(1), 1);
        });
        Sentences.holds(24, "Throws `IllegalArgumentException` if it is out of range", () -> {
            for (int wrong : Sentences.outside(1, 24)) {
                Sentences.refused(() -> Scenes.ran(3, 1), ARGUMENT, made -> made.setBound(wrong));
            }
        });
        Sentences.holds(24, "for runs from then on", () -> {
            Mailmerge made = Scenes.ran(1, 1);
            made.setBound(1);
            made.run(0, false);
            made.setBound(24);
            Check.same("before", made.postage(0, 0), 80);
            Check.same("from then on", made.postage(1, 0), 64);
        });
    }
}
