import java.util.NoSuchElementException;

/** The boundary cases of letters, routes, costs, proofs and figures, sentence by sentence. */
public final class BoundaryLettersTest {
    private static final Class<IllegalArgumentException> ARGUMENT = IllegalArgumentException.class;
    private static final Class<IndexOutOfBoundsException> INDEX = IndexOutOfBoundsException.class;
    private static final Class<NoSuchElementException> ELEMENT = NoSuchElementException.class;
    private static final Class<ArithmeticException> ARITHMETIC = ArithmeticException.class;

    public static void main(String[] args) {
        letters();
        postedAt();
        postedAtRefused();
        onRoute();
        onRouteRefused();
        postage();
        postageOnRoutes();
        postageRefused();
        costOf();
        keptByTheRun();
        proofAt();
        proofAtRefused();
        proofOfFewParts();
        returnShare();
        meanPages();
        isSound();
        Sentences.end("BoundaryLettersTest", 25, 33);
    }

    private static void letters() {
        Sentences.holds(25, "Returns the number of letters of a run.", () -> {
            Check.same("without people", Scenes.ran(0, 1).letters(0), 0);
            Check.same("24", Scenes.ran(24, 10).letters(9), 24);
            Check.same("one of seven", Scenes.allOutcomes().letters(1), 1);
            Check.same("letters that came back are letters", Scenes.struck(2, 2).letters(0), 2);
        });
        Sentences.holds(25, "Throws `IndexOutOfBoundsException` if there is no such run", () -> {
            for (int wrong : Sentences.noIndex(2)) {
                Sentences.refused(() -> Scenes.ran(1, 2), INDEX, made -> made.letters(wrong));
            }
            Sentences.refused(() -> Scenes.stocked(1), INDEX, made -> made.letters(0));
            Sentences.refused(() -> Scenes.ran(1, 10), INDEX, made -> made.letters(10));
        });
    }

    private static String posted(Mailmerge made, int run) {
        StringBuilder row = new StringBuilder();
        for (int index = 0; index < made.letters(run); index++) {
            row.append(made.postedAt(run, index)).append(' ');
        }
        return row.toString();
    }

    private static void postedAt() {
        Sentences.holds(26, "- `index`: the index, from 0", () -> {
            Mailmerge made = Scenes.ran(24, 1);
            for (int index = 0; index < 24; index++) {
                Check.same("the person", made.postedAt(0, index), index);
            }
        });
        Sentences.holds(26, "by the order in which they are posted: by codes, and those of the same code by people", () -> {
            Check.same("falling codes", posted(Scenes.ranTo(99, 11, 10, 9, 0), 0), "4 3 2 1 0 ");
            Check.same("rising codes", posted(Scenes.ranTo(0, 9, 10, 11, 99), 0), "0 1 2 3 4 ");
            Check.same("the same code at other addresses", posted(Scenes.ranTo(5, 5, 4, 5, 4), 0), "2 4 0 1 3 ");
            Check.same("one letter", posted(Scenes.ranTo(99), 0), "0 ");
        });
    }

    private static void postedAtRefused() {
        Sentences.holds(26, "Throws `IndexOutOfBoundsException` if there is no such run", () -> {
            for (int wrong : Sentences.noIndex(2)) {
                Sentences.refused(() -> Scenes.ran(1, 2), INDEX, made -> made.postedAt(wrong, 0));
            }
            Sentences.refused(() -> Scenes.stocked(1), INDEX, made -> made.postedAt(0, 0));
            Sentences.refused(() -> Scenes.ran(1, 10), INDEX, made -> made.postedAt(10, 0));
        });
        Sentences.holds(26, "Throws `NoSuchElementException` if there is no such letter", () -> {
            for (int wrong : Sentences.noIndex(2)) {
                Sentences.refused(() -> Scenes.ran(2, 1), ELEMENT, made -> made.postedAt(0, wrong));
            }
            Sentences.refused(() -> Scenes.ran(0, 1), ELEMENT, made -> made.postedAt(0, 0));
            Sentences.refused(() -> Scenes.ran(24, 1), ELEMENT, made -> made.postedAt(0, 24));
            Sentences.refused(Scenes::allOutcomes, ELEMENT, made -> made.postedAt(1, 1));
        });
        Sentences.holds(Sentences.TERMS, "the exception that is listed first is thrown", () -> {
            Sentences.refused(() -> Scenes.ran(2, 1), INDEX, made -> made.postedAt(1, 2));
            Sentences.refused(() -> Scenes.ran(2, 1), INDEX, made -> made.postedAt(-1, -1));
        });
    }

    private static String onRoutes(Mailmerge made, int run) {
        StringBuilder row = new StringBuilder();
        for (int tens = 0; tens < 10; tens++) {
            row.append(made.onRoute(run, tens));
        }
        return row.toString();
    }

    private static void onRoute() {
        Sentences.holds(27, "- `tens`: the tens of the codes, 0 to 9", () -> {
            Check.same("the lowest and the highest code", onRoutes(Scenes.ranTo(0, 99), 0), "1000000001");
            Check.same("none on the others", onRoutes(Scenes.ranTo(50), 0), "0000010000");
        });
        Sentences.holds(27, "Returns the number of letters of a run on a route.", () -> {
            Check.same("no letters", onRoutes(Scenes.ran(0, 1), 0), "0000000000");
            Check.same("24", Scenes.ran(24, 1).onRoute(0, 0), 24);
            Check.same("one letter of seven people", onRoutes(Scenes.allOutcomes(), 1), "0010000000");
        });
        Sentences.holds(Sentences.TERMS,
                "The route of a letter consists of all letters of the run whose codes have the same tens.", () -> {
            Check.same("9 and 10, 89 and 90", onRoutes(Scenes.ranTo(9, 10, 19, 20, 89, 90), 0), "1210000011");
            Check.same("the same ones", onRoutes(Scenes.ranTo(5, 15, 25, 35, 45, 55, 65, 75, 85, 95), 0), "1111111111");
        });
    }

    private static void onRouteRefused() {
        Sentences.holds(27, "Throws `IndexOutOfBoundsException` if there is no such run", () -> {
            for (int wrong : Sentences.noIndex(2)) {
                Sentences.refused(() -> Scenes.ran(1, 2), INDEX, made -> made.onRoute(wrong, 0));
            }
            Sentences.refused(() -> Scenes.stocked(1), INDEX, made -> made.onRoute(0, 0));
            Sentences.refused(() -> Scenes.ran(1, 10), INDEX, made -> made.onRoute(10, 0));
        });
        Sentences.holds(27, "Throws `IllegalArgumentException` if the tens are out of range", () -> {
            for (int wrong : Sentences.outside(0, 9)) {
                Sentences.refused(() -> Scenes.ranTo(0, 99), ARGUMENT, made -> made.onRoute(0, wrong));
            }
        });
        Sentences.holds(Sentences.TERMS, "the exception that is listed first is thrown", () -> {
            Sentences.refused(() -> Scenes.ran(2, 1), INDEX, made -> made.onRoute(1, 10));
            Sentences.refused(() -> Scenes.ran(2, 1), INDEX, made -> made.onRoute(-1, -1));
        });
    }

    /** The postage of a letter of so many pages, alone on its route. */
    private static int postageOf(int pages, int bound) {
        Mailmerge made = Scenes.people(1);
        made.addTemplate();
        for (int i = 0; i < pages; i++) {
            made.addPart(0, 40, 0, 0);
        }
        Scenes.buyPlenty(made);
        made.setBound(bound);
        made.run(0, false);
        return made.postage(0, 0);
    }

    private static void postage() {
        Sentences.holds(Sentences.TERMS, "The postage of a letter is 80 cents up to 20 grams", () -> {
            Check.same("15 grams", postageOf(1, 24), 80);
            Check.same("20 grams", postageOf(2, 24), 80);
        });
        Sentences.holds(Sentences.TERMS, "95 cents up to 40 grams", () -> {
            Check.same("25 grams", postageOf(3, 24), 95);
        });
        Sentences.holds(Sentences.TERMS, "and 160 cents for more", () -> {
            Check.same("45 grams", postageOf(4, 24), 160);
            Check.same("50 grams", postageOf(5, 24), 160);
            Check.same("65 grams", postageOf(8, 24), 160);
        });
        Sentences.holds(Sentences.TERMS, "weighs 5 grams for each page and 10 grams more, or 25 grams more with a large envelope",
                () -> {
            Check.same("two pages and three", postageOf(3, 24) - postageOf(2, 24), 15);
            Check.same("three pages and four", postageOf(4, 24) - postageOf(3, 24), 65);
        });
        Sentences.holds(Sentences.TERMS, "it is a fifth less, this fifth rounded down", () -> {
            Check.same("80", postageOf(2, 1), 64);
            Check.same("95", postageOf(3, 1), 76);
            Check.same("160", postageOf(4, 1), 128);
        });
    }

    private static void postageOnRoutes() {
        Sentences.holds(Sentences.TERMS, "if its route has at least as many letters as the bound tells, which is 3 at first",
                () -> {
            Check.same("two letters", Scenes.ran(2, 1).postage(0, 1), 80);
            Check.same("three letters", Scenes.ran(3, 1).postage(0, 2), 64);
            Check.same("four letters", Scenes.ran(4, 1).postage(0, 3), 64);
        });
        Sentences.holds(Sentences.TERMS, "if its route has at least as many letters", () -> {
            Mailmerge made = Scenes.ranTo(10, 19, 9, 15, 20);
            Check.same("of the same tens", made.postage(0, 0), 64);
            Check.same("of the same tens", made.postage(0, 1), 64);
            Check.same("just below", made.postage(0, 2), 80);
            Check.same("just above", made.postage(0, 4), 80);
        });
        Sentences.holds(Sentences.TERMS, "as the bound tells, which is 3 at first, when the run is made", () -> {
            Mailmerge made = Scenes.stocked(2);
            made.run(0, false);
            made.setBound(2);
            made.run(0, false);
            made.setBound(3);
            Check.same("below the bound of then", made.postage(0, 0), 80);
            Check.same("at the bound of then", made.postage(1, 0), 64);
        });
    }

    private static void postageRefused() {
        Sentences.holds(28,
                "Throws `IndexOutOfBoundsException` if there is no such run, or the person was not there when it was made",
                () -> {
            for (int wrong : Sentences.noIndex(1)) {
                Sentences.refused(Scenes::oneCameLater, INDEX, made -> made.postage(wrong, 0));
                Sentences.refused(Scenes::oneCameLater, INDEX, made -> made.postage(0, wrong));
            }
            Sentences.refused(() -> Scenes.stocked(1), INDEX, made -> made.postage(0, 0));
            Sentences.refused(() -> Scenes.ran(24, 1), INDEX, made -> made.postage(0, 24));
            Sentences.refused(() -> Scenes.ran(1, 10), INDEX, made -> made.postage(10, 0));
        });
        Sentences.holds(28, "Throws `NoSuchElementException` if no letter was made for the person in the run", () -> {
            for (int person : new int[] {0, 1, 2, 4, 5, 6}) {
                Sentences.refused(Scenes::allOutcomes, ELEMENT, made -> made.postage(1, person));
            }
            Check.same("the letter", Scenes.allOutcomes().postage(1, 3), 80);
        });
        Sentences.holds(Sentences.TERMS, "the exception that is listed first is thrown", () -> {
            Sentences.refused(Scenes::allOutcomes, INDEX, made -> made.postage(2, 0));
            Sentences.refused(Scenes::allOutcomes, INDEX, made -> made.postage(1, 7));
        });
        Sentences.holds(28, "Returns the postage of a letter.", () -> {
            Check.same("the last of 24", Scenes.ran(24, 10).postage(9, 23), 64);
            Check.same("one that came back", Scenes.struck(1, 1).postage(0, 0), 80);
        });
    }

    private static void costOf() {
        Sentences.holds(29, "Returns the postage of all letters of a run.", () -> {
            Check.same("no letters", Scenes.ran(0, 1).costOf(0), 0L);
            Check.same("two letters", Scenes.ran(2, 1).costOf(0), 160L);
            Check.same("three letters", Scenes.ran(3, 1).costOf(0), 192L);
            Check.same("24 letters", Scenes.ran(24, 10).costOf(9), 24 * 64L);
            Check.same("two routes", Scenes.ranTo(10, 19, 9, 15, 20).costOf(0), 3 * 64L + 2 * 80L);
            Check.same("one letter among reasons", Scenes.allOutcomes().costOf(1), 80L);
            Check.same("all came back", Scenes.struck(2, 2).costOf(0), 160L);
        });
        Sentences.holds(29, "Throws `IndexOutOfBoundsException` if there is no such run", () -> {
            for (int wrong : Sentences.noIndex(2)) {
                Sentences.refused(() -> Scenes.ran(1, 2), INDEX, made -> made.costOf(wrong));
            }
            Sentences.refused(() -> Scenes.stocked(1), INDEX, made -> made.costOf(0));
            Sentences.refused(() -> Scenes.ran(1, 10), INDEX, made -> made.costOf(10));
        });
    }

    private static void keptByTheRun() {
        Sentences.holds(Sentences.TERMS, "A run keeps all of this as it was when it was made.", () -> {
            Mailmerge made = Scenes.ranTo(10, 19, 9, 15, 20);
            String posted = posted(made, 0);
            String routes = onRoutes(made, 0);
            made.join(4, 0);
            made.move(1, 2);
            made.setFlags(2, 7);
            made.suppress(3, 'o');
            made.setBound(1);
            made.comesBack(0, 4, 'u');
            made.comesBack(0, 2, 'd');
            made.addPerson(4, 0);
            made.run(0, true);
            Check.same("outcomes", Scenes.outcomes(made, 0, 5), "lllll");
            Check.same("letters", made.letters(0), 5);
            Check.same("the order", posted(made, 0), posted);
            Check.same("the routes", onRoutes(made, 0), routes);
            Check.same("costs", made.costOf(0), 352L);
            Check.same("the proof", made.proofAt(0, 0), 0);
        });
    }

    /** A run of a template whose parts need these flags, for people with these flags. */
    private static Mailmerge proofRun(int[] needs, int... flags) {
        Mailmerge made = Scenes.templates(1);
        for (int each : needs) {
            made.addPart(0, 1, each, 0);
        }
        Scenes.buyPlenty(made);
        made.addAddress(10);
        for (int each : flags) {
            made.addPerson(0, each);
        }
        made.run(0, false);
        return made;
    }

    private static String proof(Mailmerge made) {
        StringBuilder row = new StringBuilder();
        try {
            for (int index = 0; index < 25; index++) {
                row.append(made.proofAt(0, index)).append(' ');
            }
        } catch (NoSuchElementException behindTheLast) {
            row.append('.');
        }
        return row.toString();
    }

    private static void proofAt() {
        Sentences.holds(30, "- `index`: the index, from 0", () -> {
            Check.same("the only one", Scenes.ran(1, 1).proofAt(0, 0), 0);
            Check.same("of eight", eightLettersOfAProof().proofAt(0, 0), 0);
            Check.same("the last of eight", eightLettersOfAProof().proofAt(0, 7), 7);
        });
        Sentences.holds(Sentences.TERMS,
                "the letter is taken that has the most parts of the template that no letter of the proof has so far", () -> {
            int[] needs = {1, 1, 1, 2, 2, 4};
            Check.same("the most parts first", proof(proofRun(needs, 4, 2, 1)), "2 1 0 .");
            Check.same("parts so far don't count", proof(proofRun(needs, 3, 1, 5, 2)), "0 2 .");
            Check.same("more in all, fewer that are new", proof(proofRun(needs, 5, 1, 2, 4)), "0 2 .");
        });
        Sentences.holds(Sentences.TERMS, "of several that of the person with the lowest number", () -> {
            int[] needs = {1, 2, 4};
            Check.same("one part each", proof(proofRun(needs, 4, 1, 2)), "0 1 2 .");
            Check.same("the same flags", proof(proofRun(needs, 2, 1, 1, 2)), "0 1 .");
            Check.same("two parts each", proof(proofRun(needs, 1, 6, 3, 5)), "1 0 .");
            Check.same("one with a higher code", proof(Scenes.ranTo(99, 50, 0)), "0 .");
        });
        Sentences.holds(Sentences.TERMS, "until there is none that has such parts", () -> {
            Check.same("no letters", proof(Scenes.ran(0, 1)), ".");
            Check.same("24 with the same parts", proof(Scenes.ran(24, 1)), "0 .");
            Check.same("all parts in one", proof(proofRun(new int[] {1, 2, 4}, 1, 2, 4, 7)), "3 .");
            Check.same("eight letters", proof(eightLettersOfAProof()), "0 1 2 3 4 5 6 7 .");
        });
    }

    /** Eight parts, each for one person alone. */
    private static Mailmerge eightLettersOfAProof() {
        Mailmerge made = Scenes.templates(1);
        made.addAddress(50);
        Scenes.buyPlenty(made);
        for (int flags = 7; flags >= 0; flags--) {
            made.addPart(0, 1, flags, 7 - flags);
            made.addPerson(0, flags);
        }
        made.run(0, false);
        return made;
    }

    private static void proofAtRefused() {
        Sentences.holds(30, "Throws `IndexOutOfBoundsException` if there is no such run", () -> {
            for (int wrong : Sentences.noIndex(2)) {
                Sentences.refused(() -> Scenes.ran(1, 2), INDEX, made -> made.proofAt(wrong, 0));
            }
            Sentences.refused(() -> Scenes.stocked(1), INDEX, made -> made.proofAt(0, 0));
            Sentences.refused(() -> Scenes.ran(1, 10), INDEX, made -> made.proofAt(10, 0));
        });
        Sentences.holds(30, "Throws `NoSuchElementException` if the proof has no such letter", () -> {
            for (int wrong : Sentences.noIndex(1)) {
                Sentences.refused(() -> Scenes.ran(24, 1), ELEMENT, made -> made.proofAt(0, wrong));
            }
            Sentences.refused(() -> Scenes.ran(0, 1), ELEMENT, made -> made.proofAt(0, 0));
            Sentences.refused(BoundaryLettersTest::eightLettersOfAProof, ELEMENT, made -> made.proofAt(0, 8));
        });
        Sentences.holds(Sentences.TERMS, "the exception that is listed first is thrown", () -> {
            Sentences.refused(() -> Scenes.ran(2, 1), INDEX, made -> made.proofAt(1, 1));
            Sentences.refused(() -> Scenes.ran(2, 1), INDEX, made -> made.proofAt(-1, -1));
        });
    }

    private static void proofOfFewParts() {
        Sentences.holds(Sentences.TERMS, "The proof of a run is a row of letters", () -> {
            Mailmerge made = Scenes.allOutcomes();
            Check.same("one who got no letter is passed over", made.proofAt(1, 0), 3);
            Check.refuses("another letter", ELEMENT, () -> made.proofAt(1, 1));
            Mailmerge poor = Scenes.people(1);
            poor.addTemplate();
            poor.addPart(0, 1, 0, 0);
            poor.run(0, false);
            Check.refuses("no letter for want of stock", ELEMENT, () -> poor.proofAt(0, 0));
        });
    }

    private static void returnShare() {
        Sentences.holds(31, "Throws `ArithmeticException` if there are no letters", () -> {
            Sentences.refused(Mailmerge::new, ARITHMETIC, Mailmerge::returnShare);
            Sentences.refused(() -> Scenes.stocked(24), ARITHMETIC, Mailmerge::returnShare);
            Sentences.refused(() -> Scenes.ran(0, 10), ARITHMETIC, Mailmerge::returnShare);
        });
        Sentences.holds(31, "Returns the share of all letters that have come back.", () -> {
            Check.same("none", Scenes.ran(24, 10).returnShare(), 0f);
            Check.same("all", Scenes.struck(24, 24).returnShare(), 1f);
            Check.same("one of one", Scenes.struck(1, 1).returnShare(), 1f);
        });
        Sentences.holds(31, "Returns their number divided by that of all letters of all runs, both converted to float.",
                () -> {
            Check.same("one of three", Scenes.struck(3, 1).returnShare(), 1f / 3f);
            Check.same("two of three", Scenes.struck(3, 2).returnShare(), 2f / 3f);
            Mailmerge made = Scenes.ran(24, 10);
            made.comesBack(0, 0, 'u');
            made.comesBack(0, 1, 'm');
            made.comesBack(9, 23, 'd');
            Check.same("three of 240", made.returnShare(), 3f / 240f);
            Check.same("six runs without letters", afterEmptyRuns().returnShare(), 1f / 3f);
        });
    }

    /** Runs without letters before and behind a run of three letters, of which one came back. */
    private static Mailmerge afterEmptyRuns() {
        Mailmerge made = Scenes.ran(0, 3);
        Scenes.addPeople(made, 3);
        made.run(0, false);
        made.comesBack(3, 1, 'm');
        for (int person = 0; person < 3; person++) {
            made.suppress(person, 'o');
        }
        for (int i = 0; i < 3; i++) {
            made.run(0, false);
        }
        return made;
    }

    private static void meanPages() {
        Sentences.holds(32, "Throws `ArithmeticException` if there are no letters", () -> {
            Sentences.refused(Mailmerge::new, ARITHMETIC, Mailmerge::meanPages);
            Sentences.refused(() -> Scenes.stocked(24), ARITHMETIC, Mailmerge::meanPages);
            Sentences.refused(() -> Scenes.ran(0, 10), ARITHMETIC, Mailmerge::meanPages);
        });
        Sentences.holds(32, "Returns the sum of their pages divided by their number, both converted to double.", () -> {
            Check.same("one page each", Scenes.ran(24, 10).meanPages(), 1.0);
            Check.same("runs without letters", afterEmptyRuns().meanPages(), 1.0);
            Mailmerge made = Scenes.ran(2, 1);
            made.addTemplate();
            Scenes.addParts(made, 1, 40, 40, 40, 40, 40, 40, 40, 40);
            made.suppress(0, 'o');
            made.run(1, false);
            Check.same("1, 1 and 8 pages", made.meanPages(), 10.0 / 3.0);
            made.comesBack(1, 1, 'u');
            Check.same("letters that came back count", made.meanPages(), 10.0 / 3.0);
        });
    }

    private static void isSound() {
        Sentences.holds(33, "for each template and each person, by households and not, both ways of the preview agree", () -> {
            Check.same("without templates", Scenes.people(24).isSound(), true);
            Check.same("without people", Scenes.templates(4).isSound(), true);
            Check.same("after each reason", Scenes.allOutcomes().isSound(), true);
            Check.same("after ten runs", Scenes.ran(24, 10).isSound(), true);
        });
        Sentences.holds(33, "what was bought of paper and envelopes is what is there and what all letters took", () -> {
            Mailmerge made = Scenes.ran(24, 10);
            made.addTemplate();
            made.buyPaper(500);
            made.buyEnvelopes(false, 1);
            made.buyEnvelopes(true, 500);
            Check.same("after buying", made.isSound(), true);
            Check.refuses("buying too much", ARGUMENT, () -> made.buyPaper(501));
            Check.same("after a refused call", made.isSound(), true);
        });
        Sentences.holds(33, "Checks whether", () -> {
            Mailmerge made = Scenes.struck(3, 2);
            made.isSound();
            made.isSound();
            Check.same("what it leaves", Trace.of(made), Trace.of(Scenes.struck(3, 2)));
        });
    }
}
