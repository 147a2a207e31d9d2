import java.util.NoSuchElementException;

/** For each promise of the document: ordinary inputs, the edges that it names, and wrong inputs. */
public final class PromiseTest {
    private static final Class<IllegalArgumentException> ARGUMENT = IllegalArgumentException.class;
    private static final Class<IllegalStateException> STATE = IllegalStateException.class;
    private static final Class<IndexOutOfBoundsException> INDEX = IndexOutOfBoundsException.class;
    private static final Class<NoSuchElementException> ELEMENT = NoSuchElementException.class;
    private static final int[] NO_INDEX = {-1, Integer.MIN_VALUE, Integer.MAX_VALUE};

    public static void main(String[] args) {
        promise1NewObject();
        promise2AddAddress();
        promise3Join();
        promise3JoinOfRuns();
        promise4AddPerson();
        promise5SetFlags();
        promise6Move();
        promise7Suppress();
        promise8Allow();
        promises9And10AddressAndReason();
        promise11Strikes();
        promise12AddTemplate();
        promise13AddPart();
        promise13AddPartAfterRun();
        promise14PagesFor();
        promise14PartsByFlags();
        promises15And17Paper();
        promises16And18Envelopes();
        promise19Run();
        promise19RunClearsStrikes();
        promise19StrikesGoByTheAddressOfNow();
        promise20And21Outcomes();
        promise20And21Stock();
        promise20And21Households();
        promise20And21ChangeNothing();
        promise22Outcome();
        promise23ComesBack();
        promise23ReturnsOfOldRuns();
        promise24SetBound();
        promises25To27Letters();
        promise28Postage();
        promise28PostageIsKept();
        promise29CostOf();
        promise30ProofAt();
        promises31And32Figures();
        promises31And32FromTheFirstRunOn();
        promise33IsSound();
        Check.end("PromiseTest");
    }

    /** One address, a template with one part of ten lines for everybody, and plenty of stock. */
    private static Mailmerge stocked() {
        Mailmerge made = new Mailmerge();
        made.addAddress(10);
        made.addTemplate();
        made.addPart(0, 10, 0, 0);
        made.buyPaper(500);
        made.buyEnvelopes(false, 500);
        made.buyEnvelopes(true, 500);
        return made;
    }

    private static String outcomes(Mailmerge made, int run, int people) {
        StringBuilder row = new StringBuilder();
        for (int person = 0; person < people; person++) {
            row.append(made.outcome(run, person));
        }
        return row.toString();
    }

    /** What both previews answer for the first people; where they differ, a question mark. */
    private static String previews(Mailmerge made, int template, boolean byHouseholds, int people) {
        StringBuilder row = new StringBuilder();
        for (int person = 0; person < people; person++) {
            char answer = made.preview(template, byHouseholds, person);
            char alone = made.previewAlone(template, byHouseholds, person);
            row.append(answer == alone ? answer : '?');
        }
        return row.toString();
    }

    private static void promise1NewObject() {
        Mailmerge made = new Mailmerge();
        Check.same("paper of a new object", made.paper(), 0);
        Check.same("small envelopes of a new object", made.envelopes(false), 0);
        Check.same("large envelopes of a new object", made.envelopes(true), 0);
        Check.same("isSound of a new object", made.isSound(), true);
        Check.refuses("strikes without addresses", INDEX, () -> made.strikes(0));
        Check.refuses("addressOf without people", INDEX, () -> made.addressOf(0));
        Check.refuses("pagesFor without templates", INDEX, () -> made.pagesFor(0, 0));
        Check.refuses("letters without runs", INDEX, () -> made.letters(0));
        made.addAddress(1);
        made.buyPaper(1);
        Mailmerge other = new Mailmerge();
        Check.same("paper of another object", other.paper(), 0);
        Check.refuses("addresses of another object", INDEX, () -> other.strikes(0));
    }

    private static void promise2AddAddress() {
        Mailmerge made = new Mailmerge();
        for (int wrong : new int[] {-1, 100, Integer.MIN_VALUE, Integer.MAX_VALUE}) {
            Check.refuses("addAddress " + wrong, ARGUMENT, () -> made.addAddress(wrong));
        }
        Check.same("addAddress 0", made.addAddress(0), 0);
        Check.same("addAddress 99", made.addAddress(99), 1);
        for (int number = 2; number < 12; number++) {
            Check.same("addAddress", made.addAddress(50), number);
        }
        Check.refuses("a thirteenth address", STATE, () -> made.addAddress(50));
        Check.refuses("a thirteenth address with a wrong code", ARGUMENT, () -> made.addAddress(100));
        made.join(0, 1);
        Check.refuses("an address behind 12 of which one is gone", STATE, () -> made.addAddress(50));
    }

    private static void promise3Join() {
        Mailmerge made = new Mailmerge();
        made.addAddress(10);
        made.addAddress(20);
        made.addAddress(30);
        made.addPerson(0, 0);
        made.addPerson(1, 0);
        made.addPerson(1, 0);
        made.addPerson(2, 0);
        made.suppress(2, 'm');
        for (int wrong : NO_INDEX) {
            Check.refuses("join of a wrong first", INDEX, () -> made.join(wrong, 0));
            Check.refuses("join of a wrong second", INDEX, () -> made.join(0, wrong));
            Check.refuses("join of the same wrong one", INDEX, () -> made.join(wrong, wrong));
        }
        Check.refuses("join with itself", ARGUMENT, () -> made.join(1, 1));
        Check.same("join", made.join(0, 1), 2);
        Check.same("the address of a joined person", made.addressOf(1), 0);
        Check.same("the address of a joined person", made.addressOf(2), 0);
        Check.same("the address of another person", made.addressOf(3), 2);
        Check.same("joined ones stay suppressed as moved", made.reasonOf(2), 'm');
        Check.refuses("join of a gone second", INDEX, () -> made.join(0, 1));
        Check.refuses("join of a gone first", INDEX, () -> made.join(1, 0));
        Check.refuses("join of a gone one with itself", INDEX, () -> made.join(1, 1));
        Check.refuses("strikes of a gone one", INDEX, () -> made.strikes(1));
        Check.same("a new address after join", made.addAddress(40), 3);
        Check.same("join without people", made.join(0, 3), 0);
        Check.same("join onto a higher number", made.join(2, 0), 3);
    }

    private static void promise3JoinOfRuns() {
        Mailmerge made = stocked();
        made.addAddress(95);
        made.addPerson(0, 0);
        made.addPerson(1, 0);
        made.run(0, false);
        made.comesBack(0, 0, 'u');
        made.comesBack(0, 1, 'u');
        made.join(1, 0);
        Check.same("strikes of both", made.strikes(1), 2);
        Check.same("the run keeps the code", made.onRoute(0, 1), 1);
        Check.same("both at a bad address", previews(made, 0, false, 2), "bb");
        made.move(0, 1);
    }

    private static void promise4AddPerson() {
        Mailmerge made = new Mailmerge();
        Check.refuses("addPerson without addresses", INDEX, () -> made.addPerson(0, 0));
        made.addAddress(1);
        made.addAddress(2);
        made.addAddress(3);
        made.join(0, 2);
        for (int wrong : NO_INDEX) {
            Check.refuses("addPerson at no address", INDEX, () -> made.addPerson(wrong, 9));
        }
        Check.refuses("addPerson at a gone address", INDEX, () -> made.addPerson(2, 0));
        for (int wrong : new int[] {-1, 8, Integer.MIN_VALUE, Integer.MAX_VALUE}) {
            Check.refuses("addPerson with flags " + wrong, ARGUMENT, () -> made.addPerson(0, wrong));
        }
        Check.same("addPerson", made.addPerson(1, 7), 0);
        Check.same("the address", made.addressOf(0), 1);
        Check.same("not suppressed", made.reasonOf(0), '-');
        Check.same("the flags", made.setFlags(0, 0), 7);
        for (int number = 1; number < 24; number++) {
            Check.same("addPerson", made.addPerson(0, 0), number);
        }
        Check.refuses("a 25th person", STATE, () -> made.addPerson(0, 0));
        Check.refuses("a 25th person with wrong flags", ARGUMENT, () -> made.addPerson(0, 8));
        Check.refuses("a 25th person at no address", INDEX, () -> made.addPerson(3, 0));
    }

    private static void promise5SetFlags() {
        Mailmerge made = stocked();
        made.addPerson(0, 5);
        Check.same("setFlags", made.setFlags(0, 0), 5);
        Check.same("setFlags", made.setFlags(0, 7), 0);
        for (int wrong : NO_INDEX) {
            Check.refuses("setFlags of nobody", INDEX, () -> made.setFlags(wrong, 8));
            Check.refuses("setFlags to wrong flags", ARGUMENT, () -> made.setFlags(0, wrong));
        }
        Check.refuses("setFlags of nobody", INDEX, () -> made.setFlags(1, 0));
        Check.refuses("setFlags to 8", ARGUMENT, () -> made.setFlags(0, 8));
        Check.same("flags after refusals", made.setFlags(0, 1), 7);
        made.addTemplate();
        made.addPart(1, 10, 1, 0);
        Check.same("a part for flag 0", made.preview(1, false, 0), 'l');
        made.setFlags(0, 6);
        Check.same("no part without flag 0", made.preview(1, false, 0), 'e');
    }

    private static void promise6Move() {
        Mailmerge made = new Mailmerge();
        made.addAddress(1);
        made.addAddress(2);
        made.addAddress(3);
        made.addPerson(0, 0);
        Check.same("move", made.move(0, 1), 0);
        Check.same("the address after move", made.addressOf(0), 1);
        made.suppress(0, 'm');
        Check.same("move to the same", made.move(0, 1), 1);
        Check.same("moved no more", made.reasonOf(0), '-');
        made.suppress(0, 'd');
        made.move(0, 0);
        Check.same("dead all the same", made.reasonOf(0), 'd');
        made.suppress(0, 'o');
        made.move(0, 2);
        Check.same("wished all the same", made.reasonOf(0), 'o');
        made.suppress(0, 'm');
        made.join(2, 1);
        for (int wrong : NO_INDEX) {
            Check.refuses("move of nobody", INDEX, () -> made.move(wrong, 0));
            Check.refuses("move to nowhere", INDEX, () -> made.move(0, wrong));
        }
        Check.refuses("move of nobody", INDEX, () -> made.move(1, 0));
        Check.refuses("move to nowhere", INDEX, () -> made.move(0, 3));
        Check.refuses("move to a gone address", INDEX, () -> made.move(0, 1));
        Check.same("nothing changed", made.addressOf(0), 2);
        Check.same("nothing changed", made.reasonOf(0), 'm');
    }

    private static void promise7Suppress() {
        Mailmerge made = stocked();
        made.addPerson(0, 0);
        Check.same("suppress m", made.suppress(0, 'm'), '-');
        Check.same("suppress d", made.suppress(0, 'd'), 'm');
        Check.same("suppress o", made.suppress(0, 'o'), 'd');
        Check.same("suppress o again", made.suppress(0, 'o'), 'o');
        for (char wrong : new char[] {'-', 'u', 'M', ' ', (char) 0, (char) 65535}) {
            Check.refuses("suppress " + (int) wrong, ARGUMENT, () -> made.suppress(0, wrong));
        }
        Check.refuses("suppress nobody", INDEX, () -> made.suppress(1, '-'));
        for (int wrong : NO_INDEX) {
            Check.refuses("suppress nobody", INDEX, () -> made.suppress(wrong, 'm'));
        }
        Check.same("the reason is left", made.reasonOf(0), 'o');
        Check.same("no letter", made.preview(0, false, 0), 's');
    }

    private static void promise8Allow() {
        Mailmerge made = stocked();
        made.addPerson(0, 0);
        Check.refuses("allow one who is not suppressed", STATE, () -> made.allow(0));
        made.suppress(0, 'm');
        Check.same("allow m", made.allow(0), 'm');
        Check.same("not suppressed then", made.reasonOf(0), '-');
        made.suppress(0, 'o');
        Check.same("allow o", made.allow(0), 'o');
        Check.same("a letter then", made.preview(0, false, 0), 'l');
        made.suppress(0, 'd');
        Check.refuses("allow d", STATE, () -> made.allow(0));
        Check.same("dead still", made.reasonOf(0), 'd');
        Check.refuses("allow nobody", INDEX, () -> made.allow(1));
        for (int wrong : NO_INDEX) {
            Check.refuses("allow nobody", INDEX, () -> made.allow(wrong));
        }
    }

    private static void promises9And10AddressAndReason() {
        Mailmerge made = stocked();
        made.addAddress(5);
        made.addPerson(1, 0);
        made.addPerson(0, 0);
        Check.same("addressOf 0", made.addressOf(0), 1);
        Check.same("addressOf 1", made.addressOf(1), 0);
        made.suppress(1, 'o');
        Check.same("reasonOf 0", made.reasonOf(0), '-');
        Check.same("reasonOf 1", made.reasonOf(1), 'o');
        for (int wrong : new int[] {-1, 2, 23, 24, Integer.MIN_VALUE, Integer.MAX_VALUE}) {
            Check.refuses("addressOf nobody", INDEX, () -> made.addressOf(wrong));
            Check.refuses("reasonOf nobody", INDEX, () -> made.reasonOf(wrong));
        }
    }

    private static void promise11Strikes() {
        Mailmerge made = stocked();
        made.addAddress(5);
        made.addPerson(0, 0);
        Check.same("strikes at first", made.strikes(0), 0);
        made.run(0, false);
        made.comesBack(0, 0, 'u');
        Check.same("strikes then", made.strikes(0), 1);
        Check.same("strikes of the other", made.strikes(1), 0);
        for (int wrong : new int[] {-1, 2, 11, 12, Integer.MIN_VALUE, Integer.MAX_VALUE}) {
            Check.refuses("strikes of nothing", INDEX, () -> made.strikes(wrong));
        }
        made.join(1, 0);
        Check.refuses("strikes of a gone address", INDEX, () -> made.strikes(0));
        Check.same("strikes of both", made.strikes(1), 1);
    }

    private static void promise12AddTemplate() {
        Mailmerge made = new Mailmerge();
        for (int number = 0; number < 4; number++) {
            Check.same("addTemplate", made.addTemplate(), number);
            Check.same("a template without parts", made.pagesFor(number, 7), 0);
        }
        Check.refuses("a fifth template", STATE, made::addTemplate);
        Check.refuses("a fifth template", INDEX, () -> made.pagesFor(4, 0));
    }

    private static void promise13AddPart() {
        Mailmerge made = new Mailmerge();
        made.addTemplate();
        for (int wrong : new int[] {-1, 1, 4, Integer.MIN_VALUE, Integer.MAX_VALUE}) {
            Check.refuses("addPart to no template", INDEX, () -> made.addPart(wrong, 0, 8, 8));
        }
        for (int wrong : new int[] {0, -1, 41, Integer.MIN_VALUE, Integer.MAX_VALUE}) {
            Check.refuses("addPart of lines " + wrong, ARGUMENT, () -> made.addPart(0, wrong, 0, 0));
        }
        for (int wrong : new int[] {-1, 8, Integer.MIN_VALUE, Integer.MAX_VALUE}) {
            Check.refuses("addPart that needs " + wrong, ARGUMENT, () -> made.addPart(0, 1, wrong, 0));
            Check.refuses("addPart that forbids " + wrong, ARGUMENT, () -> made.addPart(0, 1, 0, wrong));
        }
        Check.same("no part was added", made.pagesFor(0, 0), 0);
        for (int count = 1; count <= 8; count++) {
            Check.same("addPart", made.addPart(0, count == 1 ? 40 : 1, 0, count == 8 ? 7 : 0), count);
        }
        Check.refuses("a ninth part", STATE, () -> made.addPart(0, 1, 0, 0));
        Check.refuses("a ninth part of wrong lines", ARGUMENT, () -> made.addPart(0, 41, 0, 0));
        made.addTemplate();
        Check.same("the parts of another template", made.addPart(1, 1, 7, 7), 1);
    }

    private static void promise13AddPartAfterRun() {
        Mailmerge made = stocked();
        made.addTemplate();
        made.run(0, false);
        Check.refuses("addPart after a run", STATE, () -> made.addPart(0, 1, 0, 0));
        Check.refuses("addPart after a run, wrong needs", ARGUMENT, () -> made.addPart(0, 1, 8, 0));
        Check.same("addPart to another template", made.addPart(1, 1, 0, 0), 1);
        made.addPerson(0, 0);
        made.preview(1, false, 0);
        Check.same("addPart after a preview", made.addPart(1, 1, 0, 0), 2);
    }

    private static void promise14PagesFor() {
        Mailmerge made = new Mailmerge();
        made.addTemplate();
        int[] lines = {20, 20, 1, 39, 1, 40, 15, 26};
        int[] pages = {1, 1, 2, 2, 3, 4, 5, 6};
        for (int i = 0; i < lines.length; i++) {
            made.addPart(0, lines[i], 0, 0);
            Check.same("pages with " + (i + 1) + " parts", made.pagesFor(0, 0), pages[i]);
        }
        for (int wrong : new int[] {-1, 8, Integer.MIN_VALUE, Integer.MAX_VALUE}) {
            Check.refuses("pagesFor flags " + wrong, ARGUMENT, () -> made.pagesFor(0, wrong));
            Check.refuses("pagesFor no template", INDEX, () -> made.pagesFor(1, wrong));
        }
        for (int wrong : NO_INDEX) {
            Check.refuses("pagesFor no template", INDEX, () -> made.pagesFor(wrong, 0));
        }
    }

    private static void promise14PartsByFlags() {
        for (int needs = 0; needs < 8; needs++) {
            for (int forbids = 0; forbids < 8; forbids++) {
                Mailmerge made = new Mailmerge();
                made.addTemplate();
                made.addPart(0, 40, needs, forbids);
                for (int flags = 0; flags < 8; flags++) {
                    boolean isForThem = true;
                    for (int bit = 1; bit < 8; bit *= 2) {
                        isForThem &= (needs & bit) == 0 || (flags & bit) != 0;
                        isForThem &= (forbids & bit) == 0 || (flags & bit) == 0;
                    }
                    Check.same("pages by flags", made.pagesFor(0, flags), isForThem ? 1 : 0);
                }
            }
        }
    }

    private static void promises15And17Paper() {
        Mailmerge made = new Mailmerge();
        for (int wrong : new int[] {0, -1, 501, Integer.MIN_VALUE, Integer.MAX_VALUE}) {
            Check.refuses("buyPaper " + wrong, ARGUMENT, () -> made.buyPaper(wrong));
        }
        Check.same("buyPaper 1", made.buyPaper(1), 1);
        Check.same("buyPaper 499", made.buyPaper(499), 500);
        for (int i = 2; i <= 10; i++) {
            Check.same("buyPaper 500", made.buyPaper(500), 500 * i);
        }
        Check.refuses("more than 5000 sheets", STATE, () -> made.buyPaper(1));
        Check.refuses("a wrong number beside 5000", ARGUMENT, () -> made.buyPaper(501));
        Check.same("paper", made.paper(), 5000);
        Check.same("no envelopes", made.envelopes(false) + made.envelopes(true), 0);
        Check.same("sound", made.isSound(), true);
    }

    private static void promises16And18Envelopes() {
        for (boolean areLarge : new boolean[] {false, true}) {
            Mailmerge made = new Mailmerge();
            for (int wrong : new int[] {0, -1, 501, Integer.MIN_VALUE, Integer.MAX_VALUE}) {
                Check.refuses("buyEnvelopes " + wrong, ARGUMENT, () -> made.buyEnvelopes(areLarge, wrong));
            }
            Check.same("buyEnvelopes 1", made.buyEnvelopes(areLarge, 1), 1);
            Check.same("buyEnvelopes 499", made.buyEnvelopes(areLarge, 499), 500);
            for (int i = 2; i <= 9; i++) {
                Check.same("buyEnvelopes 500", made.buyEnvelopes(areLarge, 500), 500 * i);
            }
            made.buyEnvelopes(areLarge, 499);
            Check.refuses("more than 5000 envelopes", STATE, () -> made.buyEnvelopes(areLarge, 2));
            Check.same("up to 5000 envelopes", made.buyEnvelopes(areLarge, 1), 5000);
            Check.refuses("a wrong number beside 5000", ARGUMENT, () -> made.buyEnvelopes(areLarge, 0));
            Check.same("envelopes", made.envelopes(areLarge), 5000);
            Check.same("envelopes of the other kind", made.envelopes(!areLarge), 0);
            Check.same("the other kind", made.buyEnvelopes(!areLarge, 3), 3);
            Check.same("no paper", made.paper(), 0);
            Check.same("sound", made.isSound(), true);
        }
    }

    private static void promise19Run() {
        Mailmerge made = stocked();
        for (int wrong : new int[] {-1, 1, 4, Integer.MIN_VALUE, Integer.MAX_VALUE}) {
            Check.refuses("run of no template", INDEX, () -> made.run(wrong, false));
        }
        made.addPerson(0, 0);
        for (int number = 0; number < 10; number++) {
            Check.same("run", made.run(0, number % 2 == 1), number);
            Check.same("paper after run", made.paper(), 499 - number);
            Check.same("small envelopes after run", made.envelopes(false), 499 - number);
            Check.same("large envelopes after run", made.envelopes(true), 500);
        }
        made.comesBack(9, 0, 'u');
        Check.refuses("an eleventh run", STATE, () -> made.run(0, false));
        Check.refuses("an eleventh run of no template", INDEX, () -> made.run(1, false));
        Check.same("a refused run takes no paper", made.paper(), 490);
        Check.same("a preview after ten runs", previews(made, 0, false, 1), "l");
    }

    private static void promise19RunClearsStrikes() {
        Mailmerge made = stocked();
        made.addPerson(0, 0);
        made.addPerson(0, 0);
        made.addPerson(0, 0);
        made.run(0, false);
        made.comesBack(0, 0, 'u');
        made.comesBack(0, 1, 'u');
        Check.same("strikes before", made.strikes(0), 2);
        Check.same("with the strikes when begun", previews(made, 0, false, 3), "lll");
        Check.same("a preview leaves the strikes", made.strikes(0), 2);
        made.run(0, false);
        Check.same("a letter arrived there", made.strikes(0), 0);
        Check.same("outcomes", outcomes(made, 1, 3), "lll");
        made.comesBack(1, 0, 'u');
        made.comesBack(1, 1, 'u');
        made.comesBack(1, 2, 'u');
        made.run(0, false);
        Check.same("no letter arrived there", made.strikes(0), 3);
        Check.same("outcomes", outcomes(made, 2, 3), "bbb");
        made.run(0, false);
        Check.same("a run without letters clears nothing", made.strikes(0), 3);
    }

    private static void promise19StrikesGoByTheAddressOfNow() {
        Mailmerge made = stocked();
        made.addAddress(20);
        made.addPerson(0, 0);
        made.addPerson(1, 0);
        made.run(0, false);
        made.comesBack(0, 1, 'u');
        made.run(0, false);
        made.comesBack(1, 1, 'u');
        Check.same("strikes of two runs", made.strikes(1), 2);
        Check.same("bad", previews(made, 0, false, 2), "lb");
        made.move(0, 1);
        Check.same("the letter of one who moved there", previews(made, 0, false, 2), "ll");
        made.suppress(0, 'd');
        made.run(0, false);
        Check.same("cleared by the address of now", made.strikes(1), 0);
        Check.same("outcomes", outcomes(made, 2, 2), "sl");
    }

    private static void promise20And21Outcomes() {
        Mailmerge made = stocked();
        made.addAddress(20);
        made.addTemplate();
        made.addPart(1, 40, 1, 0);
        made.addPerson(0, 1);
        made.addPerson(0, 0);
        made.addPerson(1, 1);
        made.addPerson(1, 0);
        for (int wrong : new int[] {-1, 2, 4, Integer.MIN_VALUE, Integer.MAX_VALUE}) {
            Check.refuses("preview of no template", INDEX, () -> made.preview(wrong, false, 0));
            Check.refuses("previewAlone of no template", INDEX, () -> made.previewAlone(wrong, true, 0));
        }
        for (int wrong : new int[] {-1, 4, 24, Integer.MIN_VALUE, Integer.MAX_VALUE}) {
            Check.refuses("preview of nobody", INDEX, () -> made.preview(0, true, wrong));
            Check.refuses("previewAlone of nobody", INDEX, () -> made.previewAlone(0, false, wrong));
        }
        Check.same("letters and none", previews(made, 1, false, 4), "lele");
        made.run(0, false);
        made.comesBack(0, 2, 'u');
        made.comesBack(0, 3, 'u');
        Check.same("bad before empty", previews(made, 1, false, 4), "lebb");
        made.suppress(2, 'o');
        Check.same("suppressed before bad", previews(made, 1, true, 4), "lesb");
        made.suppress(1, 'o');
        Check.same("suppressed before empty", previews(made, 1, true, 4), "lssb");
    }

    private static void promise20And21Stock() {
        Mailmerge made = new Mailmerge();
        made.addAddress(10);
        made.addTemplate();
        made.addPart(0, 40, 0, 0);
        made.addPart(0, 40, 1, 0);
        made.addPart(0, 40, 1, 0);
        made.addPart(0, 40, 2, 0);
        made.addPerson(0, 1);
        made.addPerson(0, 3);
        made.addPerson(0, 0);
        made.addPerson(0, 1);
        made.addPerson(0, 3);
        Check.same("no stock", previews(made, 0, false, 5), "ppppp");
        made.buyPaper(8);
        Check.same("no envelopes", previews(made, 0, false, 5), "ppppp");
        made.buyEnvelopes(true, 2);
        Check.same("large envelopes alone", previews(made, 0, false, 5), "plppl");
        made.buyEnvelopes(false, 1);
        Check.same("one small envelope", previews(made, 0, false, 5), "llppp");
        made.buyEnvelopes(false, 9);
        Check.same("paper for three letters", previews(made, 0, false, 5), "lllpp");
        Check.same("run", made.run(0, false), 0);
        Check.same("outcomes", outcomes(made, 0, 5), "lllpp");
        Check.same("paper", made.paper(), 0);
        Check.same("small envelopes", made.envelopes(false), 8);
        Check.same("large envelopes", made.envelopes(true), 1);
        made.buyPaper(2);
        Check.same("a later letter that is thinner", previews(made, 0, false, 5), "pplpp");
        Check.same("sound", made.isSound(), true);
    }

    private static void promise20And21Households() {
        Mailmerge made = new Mailmerge();
        made.addAddress(10);
        made.addAddress(20);
        made.addTemplate();
        made.addPart(0, 40, 0, 1);
        made.addPart(0, 40, 2, 0);
        made.addPerson(0, 1);
        made.addPerson(0, 2);
        made.addPerson(1, 0);
        made.addPerson(0, 0);
        made.addPerson(1, 3);
        made.addPerson(1, 1);
        Check.same("household before stock", previews(made, 0, true, 6), "epphhe");
        made.buyPaper(1);
        made.buyEnvelopes(false, 9);
        Check.same("one who got none of the stock counts", previews(made, 0, true, 6), "eplhhe");
        made.buyPaper(9);
        Check.same("by households", previews(made, 0, true, 6), "ellhhe");
        Check.same("not by households", previews(made, 0, false, 6), "elllle");
        made.suppress(2, 'o');
        Check.same("a suppressed one does not count", previews(made, 0, true, 6), "elshle");
        made.move(3, 1);
        Check.same("one who moved", previews(made, 0, true, 6), "elslhe");
        made.join(1, 0);
        Check.same("one household", previews(made, 0, true, 6), "elshhe");
        made.run(0, true);
        Check.same("outcomes", outcomes(made, 0, 6), "elshhe");
    }

    private static void promise20And21ChangeNothing() {
        Mailmerge made = stocked();
        made.addPerson(0, 0);
        made.addPerson(0, 0);
        for (int i = 0; i < 3; i++) {
            Check.same("preview again", previews(made, 0, i == 1, 2), i == 1 ? "lh" : "ll");
            Check.same("sound", made.isSound(), true);
        }
        Check.same("paper", made.paper(), 500);
        Check.same("small envelopes", made.envelopes(false), 500);
        Check.refuses("no run was made", INDEX, () -> made.letters(0));
        made.run(0, false);
        made.preview(0, true, 1);
        Check.same("a run is kept", outcomes(made, 0, 2), "ll");
    }

    private static void promise22Outcome() {
        Mailmerge made = stocked();
        Check.refuses("outcome without runs", INDEX, () -> made.outcome(0, 0));
        made.run(0, false);
        made.addPerson(0, 0);
        Check.refuses("outcome of one who came later", INDEX, () -> made.outcome(0, 0));
        made.run(0, false);
        Check.same("outcome", made.outcome(1, 0), 'l');
        made.suppress(0, 'd');
        Check.same("the outcome is kept", made.outcome(1, 0), 'l');
        for (int wrong : new int[] {-1, 2, 10, Integer.MIN_VALUE, Integer.MAX_VALUE}) {
            Check.refuses("outcome in no run", INDEX, () -> made.outcome(wrong, 0));
        }
        for (int wrong : new int[] {-1, 1, 24, Integer.MIN_VALUE, Integer.MAX_VALUE}) {
            Check.refuses("outcome of nobody", INDEX, () -> made.outcome(1, wrong));
        }
    }

    private static void promise23ComesBack() {
        Mailmerge made = stocked();
        for (int person = 0; person < 4; person++) {
            made.addPerson(0, 0);
        }
        made.suppress(3, 'o');
        Check.refuses("comesBack without runs", INDEX, () -> made.comesBack(0, 0, 'x'));
        made.run(0, false);
        made.addPerson(0, 0);
        for (int wrong : NO_INDEX) {
            Check.refuses("comesBack in no run", INDEX, () -> made.comesBack(wrong, 0, 'u'));
            Check.refuses("comesBack of nobody", INDEX, () -> made.comesBack(0, wrong, 'u'));
        }
        Check.refuses("comesBack of one who came later", INDEX, () -> made.comesBack(0, 4, 'x'));
        for (char wrong : new char[] {'o', '-', 'l', 'U', (char) 0, (char) 65535}) {
            Check.refuses("comesBack as " + (int) wrong, ARGUMENT, () -> made.comesBack(0, 0, wrong));
            Check.refuses("comesBack of no letter as " + (int) wrong, ARGUMENT, () -> made.comesBack(0, 3, wrong));
        }
        Check.refuses("comesBack of no letter", STATE, () -> made.comesBack(0, 3, 'u'));
        Check.same("comesBack u", made.comesBack(0, 0, 'u'), 1);
        Check.same("a strike", made.strikes(0), 1);
        Check.same("unknown is not suppressed", made.reasonOf(0), '-');
        Check.refuses("comesBack twice", STATE, () -> made.comesBack(0, 0, 'm'));
        Check.same("comesBack m", made.comesBack(0, 1, 'm'), 2);
        Check.same("moved", made.reasonOf(1), 'm');
        made.suppress(2, 'o');
        Check.same("comesBack d", made.comesBack(0, 2, 'd'), 3);
        Check.same("dead, whatever held before", made.reasonOf(2), 'd');
        Check.same("no more strikes", made.strikes(0), 1);
        Check.same("the outcome is kept", outcomes(made, 0, 4), "llls");
    }

    private static void promise23ReturnsOfOldRuns() {
        Mailmerge made = stocked();
        made.addAddress(20);
        made.addPerson(0, 0);
        made.addPerson(0, 0);
        made.run(0, false);
        made.run(0, false);
        Check.same("of the run before", made.comesBack(0, 0, 'u'), 1);
        Check.same("of the last run", made.comesBack(1, 0, 'm'), 1);
        Check.same("of the last run", made.comesBack(1, 1, 'd'), 2);
        made.suppress(1, 'o');
        Check.same("of the run before", made.comesBack(0, 1, 'm'), 2);
        Check.same("in place of what held before", made.reasonOf(1), 'm');
        made.move(0, 1);
        made.run(0, false);
        Check.same("strikes of the old address stay", made.strikes(0), 1);
        made.comesBack(2, 0, 'u');
        Check.same("a strike for the address of now", made.strikes(1), 1);
        made.join(1, 0);
        Check.same("strikes of both", made.strikes(1), 2);
    }

    private static void promise24SetBound() {
        Mailmerge made = stocked();
        for (int wrong : new int[] {0, -1, 25, Integer.MIN_VALUE, Integer.MAX_VALUE}) {
            Check.refuses("setBound " + wrong, ARGUMENT, () -> made.setBound(wrong));
        }
        Check.same("the bound at first", made.setBound(1), 3);
        Check.same("setBound", made.setBound(24), 1);
        Check.same("setBound", made.setBound(2), 24);
        made.addPerson(0, 0);
        made.run(0, false);
        made.setBound(1);
        made.run(0, false);
        Check.same("below the bound of then", made.postage(0, 0), 80);
        Check.same("at the bound of then", made.postage(1, 0), 64);
    }

    private static void promises25To27Letters() {
        Mailmerge made = stocked();
        made.addAddress(9);
        made.addAddress(19);
        made.addAddress(99);
        made.addAddress(0);
        int[] homes = {3, 2, 0, 1, 4, 0, 2, 1};
        for (int home : homes) {
            made.addPerson(home, 0);
        }
        made.suppress(5, 'o');
        made.run(0, false);
        Check.same("letters", made.letters(0), 7);
        int[] posted = {4, 3, 7, 2, 1, 6, 0};
        made.move(4, 3);
        made.join(3, 1);
        made.comesBack(0, 0, 'u');
        for (int index = 0; index < posted.length; index++) {
            Check.same("postedAt " + index, made.postedAt(0, index), posted[index]);
        }
        int[] onRoutes = {3, 3, 0, 0, 0, 0, 0, 0, 0, 1};
        for (int tens = 0; tens < onRoutes.length; tens++) {
            Check.same("onRoute " + tens, made.onRoute(0, tens), onRoutes[tens]);
        }
        for (int wrong : NO_INDEX) {
            Check.refuses("letters of no run", INDEX, () -> made.letters(wrong));
            Check.refuses("postedAt in no run", INDEX, () -> made.postedAt(wrong, 0));
            Check.refuses("postedAt nowhere", ELEMENT, () -> made.postedAt(0, wrong));
            Check.refuses("onRoute of no run", INDEX, () -> made.onRoute(wrong, 10));
            Check.refuses("onRoute of no tens", ARGUMENT, () -> made.onRoute(0, wrong));
        }
        Check.refuses("letters of no run", INDEX, () -> made.letters(1));
        Check.refuses("postedAt in no run", INDEX, () -> made.postedAt(1, 99));
        Check.refuses("postedAt behind the last", ELEMENT, () -> made.postedAt(0, 7));
        Check.refuses("onRoute of ten", ARGUMENT, () -> made.onRoute(0, 10));
        Check.refuses("onRoute of no run", INDEX, () -> made.onRoute(1, 0));
    }

    private static void promise28Postage() {
        int[] full = {80, 80, 95, 160, 160, 160, 160, 160};
        int[] less = {64, 64, 76, 128, 128, 128, 128, 128};
        Mailmerge made = stocked();
        made.addPerson(0, 0);
        made.addPerson(0, 0);
        made.suppress(1, 'o');
        for (int pages = 1; pages <= 3; pages++) {
            made.addTemplate();
            for (int i = 0; i < (pages == 3 ? 8 : pages + 1); i++) {
                made.addPart(pages, 40, 0, 0);
            }
        }
        int[] pagesOf = {1, 2, 3, 8};
        for (int template = 0; template < 4; template++) {
            made.setBound(2);
            int run = made.run(template, false);
            made.setBound(1);
            int cheaper = made.run(template, false);
            Check.same("postage", made.postage(run, 0), full[pagesOf[template] - 1]);
            Check.same("postage on a full route", made.postage(cheaper, 0), less[pagesOf[template] - 1]);
            Check.refuses("postage of no letter", ELEMENT, () -> made.postage(run, 1));
        }
        made.addPerson(0, 0);
        for (int wrong : NO_INDEX) {
            Check.refuses("postage in no run", INDEX, () -> made.postage(wrong, 0));
            Check.refuses("postage of nobody", INDEX, () -> made.postage(0, wrong));
        }
        Check.refuses("postage in no run", INDEX, () -> made.postage(8, 1));
        Check.refuses("postage of one who came later", INDEX, () -> made.postage(0, 2));
    }

    private static void promise28PostageIsKept() {
        Mailmerge made = new Mailmerge();
        made.addAddress(30);
        made.addAddress(39);
        made.addAddress(40);
        made.addTemplate();
        for (int part = 0; part < 4; part++) {
            made.addPart(0, 40, part == 3 ? 1 : 0, 0);
        }
        made.buyPaper(500);
        made.buyEnvelopes(false, 500);
        made.buyEnvelopes(true, 500);
        made.addPerson(0, 0);
        made.addPerson(1, 1);
        made.addPerson(2, 0);
        made.addPerson(1, 0);
        made.run(0, false);
        made.setFlags(0, 1);
        made.move(1, 2);
        made.join(2, 0);
        made.setBound(24);
        made.comesBack(0, 3, 'u');
        Check.same("three pages on a full route", made.postage(0, 0), 76);
        Check.same("four pages on a full route", made.postage(0, 1), 128);
        Check.same("three pages alone on the route", made.postage(0, 2), 95);
        Check.same("one that came back", made.postage(0, 3), 76);
        Check.same("costOf", made.costOf(0), 375L);
        Check.same("onRoute", made.onRoute(0, 3), 3);
    }

    private static void promise29CostOf() {
        Mailmerge made = stocked();
        Check.refuses("costOf without runs", INDEX, () -> made.costOf(0));
        made.run(0, false);
        Check.same("costOf no letters", made.costOf(0), 0L);
        made.addPerson(0, 0);
        made.addPerson(0, 0);
        made.run(0, false);
        Check.same("costOf two letters", made.costOf(1), 160L);
        made.addPerson(0, 0);
        made.run(0, false);
        Check.same("costOf three letters", made.costOf(2), 192L);
        Check.same("costOf the run before", made.costOf(1), 160L);
        for (int wrong : new int[] {-1, 3, 10, Integer.MIN_VALUE, Integer.MAX_VALUE}) {
            Check.refuses("costOf no run", INDEX, () -> made.costOf(wrong));
        }
    }

    private static void promise30ProofAt() {
        Mailmerge made = stocked();
        made.addTemplate();
        made.addPart(1, 1, 1, 0);
        made.addPart(1, 1, 1, 0);
        made.addPart(1, 1, 2, 0);
        made.addPart(1, 1, 4, 0);
        made.addPart(1, 1, 4, 0);
        made.addPart(1, 1, 0, 7);
        int[] flags = {0, 2, 4, 1, 6, 5, 6, 7};
        for (int set : flags) {
            made.addPerson(0, set);
        }
        made.suppress(7, 'o');
        made.run(1, false);
        made.setFlags(5, 0);
        made.comesBack(0, 5, 'm');
        int[] proof = {5, 0, 1};
        for (int index = 0; index < proof.length; index++) {
            Check.same("proofAt " + index, made.proofAt(0, index), proof[index]);
        }
        Check.refuses("proofAt behind the last", ELEMENT, () -> made.proofAt(0, 3));
        made.allow(7);
        made.suppress(5, 'o');
        made.suppress(1, 'o');
        made.run(1, false);
        Check.same("the letter of all flags", made.proofAt(1, 0), 7);
        Check.same("the part for nobody with flags", made.proofAt(1, 1), 0);
        Check.refuses("nothing more", ELEMENT, () -> made.proofAt(1, 2));
        made.suppress(7, 'o');
        made.run(1, false);
        Check.same("three parts", made.proofAt(2, 0), 4);
        Check.same("two parts more", made.proofAt(2, 1), 3);
        Check.same("one part more", made.proofAt(2, 2), 0);
        Check.refuses("nothing more", ELEMENT, () -> made.proofAt(2, 3));
        for (int wrong : NO_INDEX) {
            Check.refuses("proofAt in no run", INDEX, () -> made.proofAt(wrong, 0));
            Check.refuses("proofAt nowhere", ELEMENT, () -> made.proofAt(0, wrong));
        }
        Check.refuses("proofAt in no run", INDEX, () -> made.proofAt(3, 99));
        proofOfEightLetters();
        proofWithoutLetters();
    }

    private static void proofOfEightLetters() {
        Mailmerge made = new Mailmerge();
        made.addAddress(50);
        made.addTemplate();
        made.buyPaper(500);
        made.buyEnvelopes(false, 500);
        for (int flags = 7; flags >= 0; flags--) {
            made.addPart(0, 1, flags, 7 - flags);
            made.addPerson(0, flags);
        }
        made.run(0, false);
        for (int index = 0; index < 8; index++) {
            Check.same("proofAt " + index, made.proofAt(0, index), index);
        }
        Check.refuses("a ninth letter of the proof", ELEMENT, () -> made.proofAt(0, 8));
    }

    private static void proofWithoutLetters() {
        Mailmerge made = new Mailmerge();
        made.addAddress(50);
        made.addTemplate();
        made.addPart(0, 1, 0, 0);
        made.addPerson(0, 0);
        made.run(0, false);
        Check.same("no stock", made.outcome(0, 0), 'p');
        Check.refuses("no letter, no proof", ELEMENT, () -> made.proofAt(0, 0));
        Check.refuses("no letter posted", ELEMENT, () -> made.postedAt(0, 0));
    }

    private static void promises31And32Figures() {
        Mailmerge made = stocked();
        Check.refuses("returnShare without runs", ArithmeticException.class, made::returnShare);
        Check.refuses("meanPages without runs", ArithmeticException.class, made::meanPages);
        made.run(0, false);
        Check.refuses("returnShare without letters", ArithmeticException.class, made::returnShare);
        Check.refuses("meanPages without letters", ArithmeticException.class, made::meanPages);
        made.addTemplate();
        made.addPart(1, 40, 0, 0);
        made.addPart(1, 40, 0, 0);
        made.addPerson(0, 0);
        made.addPerson(0, 0);
        made.run(0, false);
        Check.same("no letter back", made.returnShare(), 0f);
        Check.same("one page", made.meanPages(), 1.0);
        made.addPerson(0, 0);
        made.run(1, true);
        Check.same("pages of all runs", made.meanPages(), 4.0 / 3.0);
        made.comesBack(1, 1, 'u');
        Check.same("a third back", made.returnShare(), 1f / 3f);
        made.comesBack(2, 0, 'd');
        Check.same("two thirds back", made.returnShare(), 2f / 3f);
        made.setFlags(0, 3);
        Check.same("the pages are kept", made.meanPages(), 4.0 / 3.0);
        made.comesBack(1, 0, 'm');
        Check.same("all back", made.returnShare(), 1f);
    }

    private static void promises31And32FromTheFirstRunOn() {
        Mailmerge made = stocked();
        made.addPerson(0, 0);
        made.run(0, false);
        Check.same("one page", made.meanPages(), 1.0);
        made.comesBack(0, 0, 'u');
        Check.same("all back", made.returnShare(), 1f);
        Check.same("sound", made.isSound(), true);
    }

    private static void promise33IsSound() {
        Mailmerge made = stocked();
        made.addTemplate();
        for (int i = 0; i < 4; i++) {
            made.addPart(1, 40, 0, 0);
            made.addPerson(0, i);
        }
        Check.same("sound before runs", made.isSound(), true);
        for (int run = 0; run < 10; run++) {
            made.run(run % 2, run % 3 == 0);
            made.comesBack(run, 0, 'u');
            int strikes = made.strikes(0);
            Check.same("sound after run " + run, made.isSound(), true);
            Check.same("isSound leaves the strikes", made.strikes(0), strikes);
        }
        int paper = made.paper();
        made.isSound();
        Check.same("isSound takes no paper", made.paper(), paper);
        made.buyPaper(7);
        made.buyEnvelopes(true, 3);
        Check.same("sound after buying", made.isSound(), true);
    }
}
