/** The boundary cases of templates and stock, sentence by sentence. */
public final class BoundaryTemplatesTest {
    private static final Class<IllegalArgumentException> ARGUMENT = IllegalArgumentException.class;
    private static final Class<IllegalStateException> STATE = IllegalStateException.class;
    private static final Class<IndexOutOfBoundsException> INDEX = IndexOutOfBoundsException.class;

    public static void main(String[] args) {
        addTemplate();
        addPart();
        addPartRefused();
        partsOfUsedTemplates();
        pagesFor();
        pages();
        partsByFlags();
        buyPaper();
        buyEnvelopes(false);
        buyEnvelopes(true);
        askStock();
        stockOfLetters();
        Sentences.end("BoundaryTemplatesTest", 12, 18);
    }

    private static void addTemplate() {
        Sentences.holds(12, "Adds a template without parts.", () -> {
            Mailmerge made = Scenes.templates(4);
            for (int flags = 0; flags < 8; flags++) {
                Check.same("pages of the first one", made.pagesFor(0, flags), 0);
                Check.same("pages of the last one", made.pagesFor(3, flags), 0);
            }
            Check.same("the first part", made.addPart(3, 1, 0, 0), 1);
        });
        Sentences.holds(12, "Returns the number of the template.", () -> {
            Mailmerge made = new Mailmerge();
            for (int number = 0; number < 4; number++) {
                Check.same("the number", made.addTemplate(), number);
            }
        });
        Sentences.holds(12, "Throws `IllegalStateException` if there are 4 templates", () -> {
            Check.same("the fourth", Scenes.templates(3).addTemplate(), 3);
            Sentences.refused(() -> Scenes.templates(4), STATE, Mailmerge::addTemplate);
        });
        Sentences.holds(Sentences.TERMS, "At most 4 templates exist, numbered from 0", () -> {
            Mailmerge made = Scenes.templates(4);
            Check.same("a part of the last one", made.addPart(3, 1, 0, 0), 1);
            Check.same("the first one", made.pagesFor(0, 0), 0);
            Check.same("the last one", made.pagesFor(3, 0), 1);
            Check.refuses("one more", INDEX, () -> made.pagesFor(4, 0));
        });
    }

    private static void addPart() {
        Sentences.holds(13, "- `lines`: its lines, 1 to 40", () -> {
            Mailmerge made = Scenes.parts(1);
            Check.same("one line", made.pagesFor(0, 0), 1);
            Check.same("40 lines", made.addPart(0, 40, 0, 0), 2);
            Check.same("both", made.pagesFor(0, 0), 2);
        });
        Sentences.holds(13, "- `needs`: the set of flags that it needs, 0 to 7", () -> {
            Check.same("none", pagesByFlags(0, 0), "11111111");
            Check.same("flag 0", pagesByFlags(1, 0), "01010101");
            Check.same("flag 2", pagesByFlags(4, 0), "00001111");
            Check.same("all", pagesByFlags(7, 0), "00000001");
        });
        Sentences.holds(13, "- `forbids`: the set of flags that it forbids, 0 to 7", () -> {
            Check.same("flag 0", pagesByFlags(0, 1), "10101010");
            Check.same("flag 2", pagesByFlags(0, 4), "11110000");
            Check.same("all", pagesByFlags(0, 7), "10000000");
        });
        Sentences.holds(13, "Returns the number of parts of the template.", () -> {
            Mailmerge made = Scenes.templates(4);
            for (int count = 1; count <= 8; count++) {
                Check.same("of the last one", made.addPart(3, 40, count % 8, 7), count);
            }
            Check.same("of the first one", made.addPart(0, 40, 0, 0), 1);
        });
        Sentences.holds(Sentences.TERMS, "each has at most 8 parts, in an order", () -> {
            Mailmerge made = Scenes.templates(4);
            for (int template = 0; template < 4; template++) {
                Scenes.addParts(made, template, 40, 40, 40, 40, 40, 40, 40, 40);
            }
            Check.same("pages of the first one", made.pagesFor(0, 0), 8);
            Check.same("pages of the last one", made.pagesFor(3, 0), 8);
        });
    }

    /** The pages, for the flags 0 to 7, of a template with one part. */
    private static String pagesByFlags(int needs, int forbids) {
        Mailmerge made = Scenes.templates(1);
        made.addPart(0, 1, needs, forbids);
        StringBuilder row = new StringBuilder();
        for (int flags = 0; flags < 8; flags++) {
            row.append(made.pagesFor(0, flags));
        }
        return row.toString();
    }

    private static void addPartRefused() {
        Sentences.holds(13, "Throws `IndexOutOfBoundsException` if there is no such template", () -> {
            for (int wrong : Sentences.noIndex(2)) {
                Sentences.refused(() -> Scenes.templates(2), INDEX, made -> made.addPart(wrong, 1, 0, 0));
            }
            Sentences.refused(() -> Scenes.templates(0), INDEX, made -> made.addPart(0, 1, 0, 0));
            Sentences.refused(() -> Scenes.templates(4), INDEX, made -> made.addPart(4, 1, 0, 0));
        });
        Sentences.holds(13, "Throws `IllegalArgumentException` if a number is out of range", () -> {
            for (int wrong : Sentences.outside(1, 40)) {
                Sentences.refused(() -> Scenes.parts(9), ARGUMENT, made -> made.addPart(0, wrong, 0, 0));
            }
            for (int wrong : Sentences.outside(0, 7)) {
                Sentences.refused(() -> Scenes.parts(9), ARGUMENT, made -> made.addPart(0, 1, wrong, 0));
                Sentences.refused(() -> Scenes.parts(9), ARGUMENT, made -> made.addPart(0, 1, 0, wrong));
            }
        });
        Sentences.holds(13, "Throws `IllegalStateException` if it has 8 parts, or a run of it was made", () -> {
            Check.same("the eighth part", Scenes.parts(1, 2, 3, 4, 5, 6, 7).addPart(0, 1, 7, 7), 8);
            Sentences.refused(BoundaryTemplatesTest::eightParts, STATE, made -> made.addPart(0, 1, 0, 0));
            Sentences.refused(BoundaryTemplatesTest::eightParts, STATE, made -> made.addPart(0, 40, 7, 7));
            Sentences.refused(() -> Scenes.ran(2, 1), STATE, made -> made.addPart(0, 1, 0, 0));
        });
        Sentences.holds(Sentences.TERMS, "the exception that is listed first is thrown", () -> {
            Sentences.refused(BoundaryTemplatesTest::eightParts, INDEX, made -> made.addPart(1, 0, 0, 0));
            Sentences.refused(BoundaryTemplatesTest::eightParts, INDEX, made -> made.addPart(-1, 1, 8, 8));
            Sentences.refused(BoundaryTemplatesTest::eightParts, ARGUMENT, made -> made.addPart(0, 41, 0, 0));
            Sentences.refused(BoundaryTemplatesTest::eightParts, ARGUMENT, made -> made.addPart(0, 1, 8, 0));
            Sentences.refused(() -> Scenes.ran(1, 1), ARGUMENT, made -> made.addPart(0, 1, 0, -1));
        });
    }

    private static Mailmerge eightParts() {
        return Scenes.parts(1, 2, 3, 4, 5, 6, 7, 8);
    }

    private static void partsOfUsedTemplates() {
        Sentences.holds(13, "or a run of it was made", () -> {
            Mailmerge empty = Scenes.templates(1);
            empty.run(0, true);
            Check.refuses("after a run without people and parts", STATE, () -> empty.addPart(0, 1, 0, 0));
            Mailmerge made = Scenes.stocked(1);
            made.addTemplate();
            made.preview(0, false, 0);
            made.previewAlone(0, false, 0);
            made.isSound();
            Check.same("after previews", made.addPart(0, 1, 0, 0), 2);
            made.run(1, false);
            Check.same("after a run of another one", made.addPart(0, 1, 0, 0), 3);
            Check.refuses("after a run", STATE, () -> made.addPart(1, 1, 0, 0));
        });
        Sentences.holds(Sentences.TERMS, "A method that throws an exception changes nothing.", () -> {
            Mailmerge made = Scenes.ran(1, 10);
            made.addTemplate();
            Check.refuses("an eleventh run", STATE, () -> made.run(1, false));
            Check.same("after a run that was refused", made.addPart(1, 1, 0, 0), 1);
        });
    }

    private static void pagesFor() {
        Sentences.holds(14, "- `flags`: the flags, 0 to 7", () -> {
            Mailmerge made = Scenes.templates(1);
            made.addPart(0, 40, 0, 7);
            made.addPart(0, 40, 7, 0);
            made.addPart(0, 40, 7, 0);
            Check.same("flags 0", made.pagesFor(0, 0), 1);
            Check.same("flags 7", made.pagesFor(0, 7), 2);
        });
        Sentences.holds(14, "Returns the number of pages, 0 if it has no parts.", () -> {
            Check.same("a template without parts", Scenes.templates(1).pagesFor(0, 0), 0);
            Check.same("a letter without parts", pagesByFlags(7, 7), "00000000");
            Check.same("one part", Scenes.parts(1).pagesFor(0, 7), 1);
        });
        Sentences.holds(14, "Throws `IndexOutOfBoundsException` if there is no such template", () -> {
            for (int wrong : Sentences.noIndex(2)) {
                Sentences.refused(() -> Scenes.templates(2), INDEX, made -> made.pagesFor(wrong, 0));
            }
            Sentences.refused(() -> Scenes.templates(0), INDEX, made -> made.pagesFor(0, 0));
            Sentences.refused(() -> Scenes.templates(4), INDEX, made -> made.pagesFor(4, 0));
        });
        Sentences.holds(14, "Throws `IllegalArgumentException` if the flags are out of range", () -> {
            for (int wrong : Sentences.outside(0, 7)) {
                Sentences.refused(() -> Scenes.parts(9), ARGUMENT, made -> made.pagesFor(0, wrong));
            }
        });
        Sentences.holds(Sentences.TERMS, "the exception that is listed first is thrown", () -> {
            Sentences.refused(() -> Scenes.parts(9), INDEX, made -> made.pagesFor(1, 8));
            Sentences.refused(() -> Scenes.parts(9), INDEX, made -> made.pagesFor(-1, -1));
        });
    }

    private static void pages() {
        Sentences.holds(Sentences.TERMS,
                "A page holds 40 lines: a part is laid on the present page if its lines fit there", () -> {
            Check.same("40 lines", Scenes.parts(40).pagesFor(0, 0), 1);
            Check.same("39 and 1", Scenes.parts(39, 1).pagesFor(0, 0), 1);
            Check.same("1 and 39", Scenes.parts(1, 39).pagesFor(0, 0), 1);
            Check.same("eight of 5", Scenes.parts(5, 5, 5, 5, 5, 5, 5, 5).pagesFor(0, 0), 1);
            Check.same("a full second page", Scenes.parts(40, 39, 1).pagesFor(0, 0), 2);
        });
        Sentences.holds(Sentences.TERMS, "and otherwise on the next one", () -> {
            Check.same("40 and 1", Scenes.parts(40, 1).pagesFor(0, 0), 2);
            Check.same("39 and 2", Scenes.parts(39, 2).pagesFor(0, 0), 2);
            Check.same("1 and 40", Scenes.parts(1, 40).pagesFor(0, 0), 2);
            Check.same("20, 20 and 1", Scenes.parts(20, 20, 1).pagesFor(0, 0), 2);
            Check.same("seven of 5 and 6", Scenes.parts(5, 5, 5, 5, 5, 5, 5, 6).pagesFor(0, 0), 2);
            Check.same("no part goes back", Scenes.parts(20, 21, 20).pagesFor(0, 0), 3);
            Check.same("a part is not torn", Scenes.parts(30, 30, 30, 30).pagesFor(0, 0), 4);
            Check.same("a page each", Scenes.parts(40, 40, 40, 40, 40, 40, 40, 40).pagesFor(0, 0), 8);
        });
        Sentences.holds(13, "Adds a part behind the parts of a template.", () -> {
            Check.same("40, 1, 1", Scenes.parts(40, 1, 1).pagesFor(0, 0), 2);
            Check.same("1, 40, 1", Scenes.parts(1, 40, 1).pagesFor(0, 0), 3);
            Check.same("1, 1, 40", Scenes.parts(1, 1, 40).pagesFor(0, 0), 2);
        });
        Sentences.holds(Sentences.TERMS,
                "The letter to a person consists of the parts that are for this person, in their order.", () -> {
            Mailmerge made = Scenes.templates(1);
            made.addPart(0, 1, 0, 0);
            made.addPart(0, 40, 1, 0);
            made.addPart(0, 39, 0, 0);
            Check.same("without the part between", made.pagesFor(0, 0), 1);
            Check.same("with the part between", made.pagesFor(0, 1), 3);
        });
    }

    private static void partsByFlags() {
        Sentences.holds(Sentences.TERMS,
                "it is for a person who has all flags that it needs and none that it forbids", () -> {
            Check.same("it needs two", pagesByFlags(3, 0), "00010001");
            Check.same("it forbids two", pagesByFlags(0, 6), "11000000");
            Check.same("it needs one and forbids one", pagesByFlags(2, 4), "00110000");
            Check.same("it needs what it forbids", pagesByFlags(2, 2), "00000000");
        });
    }

    private static void buyPaper() {
        Sentences.holds(15, "- `sheets`: the number of sheets, 1 to 500", () -> {
            Check.same("one", new Mailmerge().buyPaper(1), 1);
            Check.same("500", new Mailmerge().buyPaper(500), 500);
        });
        Sentences.holds(15, "Returns the number of sheets that are there then.", () -> {
            Mailmerge made = paper(4500);
            Check.same("up to 4999", made.buyPaper(499), 4999);
            Check.same("up to 5000", made.buyPaper(1), 5000);
        });
        Sentences.holds(15, "Throws `IllegalArgumentException` if the number is out of range", () -> {
            for (int wrong : Sentences.outside(1, 500)) {
                Sentences.refused(Mailmerge::new, ARGUMENT, made -> made.buyPaper(wrong));
                Sentences.refused(() -> paper(4999), ARGUMENT, made -> made.buyPaper(wrong));
            }
        });
        Sentences.holds(15, "Throws `IllegalStateException` if there would be more than 5000", () -> {
            Check.same("5000", paper(4500).buyPaper(500), 5000);
            Sentences.refused(() -> paper(5000), STATE, made -> made.buyPaper(1));
            Sentences.refused(() -> paper(4999), STATE, made -> made.buyPaper(2));
            Sentences.refused(() -> paper(4501), STATE, made -> made.buyPaper(500));
        });
        Sentences.holds(15, "if there would be more than 5000", () -> {
            Mailmerge made = Scenes.ran(1, 1);
            for (int i = 0; i < 9; i++) {
                made.buyPaper(500);
            }
            Check.same("what was used up makes room", made.buyPaper(1), 5000);
            Check.refuses("one more", STATE, () -> made.buyPaper(1));
        });
        Sentences.holds(Sentences.TERMS, "the exception that is listed first is thrown", () -> {
            Sentences.refused(() -> paper(5000), ARGUMENT, made -> made.buyPaper(501));
            Sentences.refused(() -> paper(5000), ARGUMENT, made -> made.buyPaper(0));
        });
    }

    private static Mailmerge paper(int sheets) {
        Mailmerge made = new Mailmerge();
        for (int left = sheets; left > 0; left -= 500) {
            made.buyPaper(Math.min(left, 500));
        }
        return made;
    }

    private static Mailmerge envelopes(boolean areLarge, int number) {
        Mailmerge made = new Mailmerge();
        for (int left = number; left > 0; left -= 500) {
            made.buyEnvelopes(areLarge, Math.min(left, 500));
        }
        return made;
    }

    private static void buyEnvelopes(boolean areLarge) {
        Sentences.holds(16, "- `number`: the number of envelopes, 1 to 500", () -> {
            Check.same("one", new Mailmerge().buyEnvelopes(areLarge, 1), 1);
            Check.same("500", new Mailmerge().buyEnvelopes(areLarge, 500), 500);
        });
        Sentences.holds(16, "Returns the number of envelopes of this kind that are there then.", () -> {
            Mailmerge made = envelopes(areLarge, 4500);
            Check.same("up to 4999", made.buyEnvelopes(areLarge, 499), 4999);
            Check.same("up to 5000", made.buyEnvelopes(areLarge, 1), 5000);
            Check.same("of the other kind", made.buyEnvelopes(!areLarge, 500), 500);
        });
        Sentences.holds(16, "Throws `IllegalArgumentException` if the number is out of range", () -> {
            for (int wrong : Sentences.outside(1, 500)) {
                Sentences.refused(Mailmerge::new, ARGUMENT, made -> made.buyEnvelopes(areLarge, wrong));
                Sentences.refused(() -> envelopes(areLarge, 4999), ARGUMENT,
                        made -> made.buyEnvelopes(areLarge, wrong));
            }
        });
        Sentences.holds(16, "Throws `IllegalStateException` if there would be more than 5000", () -> {
            Check.same("5000", envelopes(areLarge, 4500).buyEnvelopes(areLarge, 500), 5000);
            Sentences.refused(() -> envelopes(areLarge, 5000), STATE, made -> made.buyEnvelopes(areLarge, 1));
            Sentences.refused(() -> envelopes(areLarge, 4999), STATE, made -> made.buyEnvelopes(areLarge, 2));
            Sentences.refused(() -> envelopes(areLarge, 4501), STATE, made -> made.buyEnvelopes(areLarge, 500));
        });
        Sentences.holds(16, "if there would be more than 5000", () -> {
            Check.same("the other kind has room", envelopes(areLarge, 5000).buyEnvelopes(!areLarge, 500), 500);
            Check.same("paper has room", envelopes(areLarge, 5000).buyPaper(500), 500);
        });
        Sentences.holds(Sentences.TERMS, "the exception that is listed first is thrown", () -> {
            Sentences.refused(() -> envelopes(areLarge, 5000), ARGUMENT, made -> made.buyEnvelopes(areLarge, 501));
            Sentences.refused(() -> envelopes(areLarge, 5000), ARGUMENT, made -> made.buyEnvelopes(areLarge, 0));
        });
    }

    private static void askStock() {
        Sentences.holds(17, "Returns the number of sheets of paper.", () -> {
            Check.same("none", new Mailmerge().paper(), 0);
            Check.same("5000", paper(5000).paper(), 5000);
            Check.same("beside envelopes", envelopes(true, 5000).paper(), 0);
        });
        Sentences.holds(18, "Returns the number of envelopes of a kind.", () -> {
            for (boolean areLarge : new boolean[] {false, true}) {
                Check.same("none", new Mailmerge().envelopes(areLarge), 0);
                Check.same("5000", envelopes(areLarge, 5000).envelopes(areLarge), 5000);
                Check.same("of the other kind", envelopes(areLarge, 5000).envelopes(!areLarge), 0);
                Check.same("beside paper", paper(5000).envelopes(areLarge), 0);
            }
        });
    }

    /** Sheets, small and large envelopes that a letter of so many full pages takes. */
    private static String takenBy(int pages) {
        Mailmerge made = Scenes.people(1);
        made.addTemplate();
        for (int i = 0; i < pages; i++) {
            made.addPart(0, 40, 0, 0);
        }
        Scenes.buyPlenty(made);
        made.run(0, false);
        return (Scenes.PLENTY - made.paper()) + " " + (Scenes.PLENTY - made.envelopes(false)) + " "
                + (Scenes.PLENTY - made.envelopes(true));
    }

    private static void stockOfLetters() {
        Sentences.holds(Sentences.TERMS,
                "A letter with up to 3 pages takes a small envelope, one with more a large one", () -> {
            Check.same("1 page", takenBy(1), "1 1 0");
            Check.same("3 pages", takenBy(3), "3 1 0");
            Check.same("4 pages", takenBy(4), "4 0 1");
            Check.same("8 pages", takenBy(8), "8 0 1");
        });
        Sentences.holds(Sentences.TERMS, "it takes as many sheets of paper as it has pages", () -> {
            for (int pages = 1; pages <= 8; pages++) {
                Check.same("sheets", takenBy(pages).charAt(0), (char) ('0' + pages));
            }
            Check.same("no letter takes nothing", takenBy(0), "0 0 0");
        });
    }
}
