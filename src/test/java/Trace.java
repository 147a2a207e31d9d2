import java.util.function.Supplier;

/** All that the calls of an object can tell about its state. It uses the object up: it makes changing calls too. */
final class Trace {
    private static final int MOST_ADDRESSES = 12;
    private final Mailmerge made;
    private final StringBuilder text = new StringBuilder();
    private int people;
    private int templates;
    private int runs;

    private Trace(Mailmerge made) {
        this.made = made;
    }

    static String of(Mailmerge made) {
        Trace trace = new Trace(made);
        trace.askAddressesAndPeople();
        trace.askTemplatesAndStock();
        trace.askRuns();
        trace.askByChanging();
        trace.askReturns();
        return trace.text.toString();
    }

    /** Whether the call answered; what it answered or threw goes into the text. */
    private boolean tell(String name, Supplier<Object> call) {
        text.append(name).append(' ');
        try {
            text.append(call.get()).append('\n');
            return true;
        } catch (RuntimeException thrown) {
            text.append(thrown.getClass().getSimpleName()).append('\n');
            return false;
        }
    }

    private void askAddressesAndPeople() {
        for (int i = 0; i < MOST_ADDRESSES; i++) {
            int address = i;
            tell("strikes", () -> made.strikes(address));
        }
        while (tell("addressOf", () -> made.addressOf(people))) {
            tell("reasonOf", () -> made.reasonOf(people));
            people++;
        }
    }

    private void askTemplatesAndStock() {
        while (tell("pagesFor", () -> made.pagesFor(templates, 0))) {
            for (int i = 1; i < 8; i++) {
                int flags = i;
                tell("pagesFor", () -> made.pagesFor(templates, flags));
            }
            for (int i = 0; i < people; i++) {
                int person = i;
                tell("preview", () -> made.preview(templates, false, person));
            }
            templates++;
        }
        tell("paper", made::paper);
        tell("small envelopes", () -> made.envelopes(false));
        tell("large envelopes", () -> made.envelopes(true));
    }

    private void askRuns() {
        while (tell("letters", () -> made.letters(runs))) {
            askRun(runs);
            runs++;
        }
        tell("returnShare", made::returnShare);
        tell("meanPages", made::meanPages);
        tell("isSound", made::isSound);
    }

    private void askRun(int run) {
        tell("costOf", () -> made.costOf(run));
        for (int i = 0; i < 10; i++) {
            int tens = i;
            tell("onRoute", () -> made.onRoute(run, tens));
        }
        for (int i = 0; i < people; i++) {
            int person = i;
            if (tell("outcome", () -> made.outcome(run, person))) {
                tell("postage", () -> made.postage(run, person));
            }
        }
        int[] index = {0};
        while (tell("postedAt", () -> made.postedAt(run, index[0]))) {
            index[0]++;
        }
        index[0] = 0;
        while (tell("proofAt", () -> made.proofAt(run, index[0]))) {
            index[0]++;
        }
    }

    private void askByChanging() {
        tell("setBound", () -> made.setBound(1));
        for (int i = 0; i < people; i++) {
            int person = i;
            tell("setFlags", () -> made.setFlags(person, 0));
        }
        for (int i = 0; i < templates; i++) {
            int template = i;
            tell("addPart", () -> made.addPart(template, 1, 0, 0));
        }
        tell("addTemplate", made::addTemplate);
        tell("buyPaper", () -> made.buyPaper(1));
        tell("buyEnvelopes", () -> made.buyEnvelopes(false, 1));
        tell("buyEnvelopes", () -> made.buyEnvelopes(true, 1));
    }

    private void askReturns() {
        for (int i = 0; i < runs * people; i++) {
            int run = i / people;
            int person = i % people;
            tell("comesBack", () -> made.comesBack(run, person, 'u'));
        }
        tell("addAddress", () -> made.addAddress(1));
        tell("run", () -> made.run(0, false));
        tell("addPerson", () -> made.addPerson(0, 0));
    }
}
