import java.util.ArrayList;
import java.util.NoSuchElementException;

/** A letter factory: people at addresses, templates of parts, stock, runs and what comes back. */
public final class Mailmerge {
    private static final int MOST_ADDRESSES = 12;
    private static final int MOST_PEOPLE = 24;
    private static final int MOST_TEMPLATES = 4;
    private static final int MOST_PARTS = 8;
    private static final int MOST_RUNS = 10;
    private static final int MOST_CODE = 99;
    private static final int MOST_TENS = 9;
    private static final int MOST_BOUND = 24;
    private static final int MOST_BOUGHT_AT_ONCE = 500;
    private static final int MOST_KEPT = 5000;
    private static final int ALL_FLAGS = 7;
    private static final int LINES_OF_A_PAGE = 40;
    private static final int PAGES_OF_A_SMALL_ENVELOPE = 3;
    private static final int STRIKES_OF_A_BAD_ADDRESS = 2;
    private static final char NO_REASON = '-';
    private static final char NOTHING_IN_THE_WAY = '-';

    private final ArrayList<Address> addresses;
    private final ArrayList<Person> people;
    private final ArrayList<Template> templates;
    private final ArrayList<Run> runs;
    private final Stock there;
    private final Stock bought;
    /** What would be left in the middle of a preview; kept here so that a preview makes no object. */
    private final Stock left;
    private int bound;

    public Mailmerge() {
        addresses = new ArrayList<>();
        people = new ArrayList<>();
        templates = new ArrayList<>();
        runs = new ArrayList<>();
        there = new Stock();
        bought = new Stock();
        left = new Stock();
        bound = 3;
    }

    // ---- addresses and people

    public int addAddress(int code) throws IllegalArgumentException, IllegalStateException {
        if (code < 0 || code > MOST_CODE) {
            throw new IllegalArgumentException("the code is out of range");
        }
        // Addresses that are gone count too: their numbers are not given again.
        if (addresses.size() >= MOST_ADDRESSES) {
            throw new IllegalStateException("there were 12 addresses");
        }
        addresses.add(new Address(addresses.size(), code));
        return addresses.size() - 1;
    }

    public int join(int address, int other) throws IndexOutOfBoundsException, IllegalArgumentException {
        Address first = addressAt(address);
        Address second = addressAt(other);
        if (address == other) {
            throw new IllegalArgumentException("both are the same address");
        }
        int moved = 0;
        for (int i = 0; i < people.size(); i++) {
            Person person = people.get(i);
            if (person.home == second) {
                person.home = first;
                moved++;
            }
        }
        first.struck += second.struck;
        second.isGone = true;
        return moved;
    }

    public int addPerson(int address, int flags)
            throws IndexOutOfBoundsException, IllegalArgumentException, IllegalStateException {
        Address home = addressAt(address);
        checkFlags(flags);
        if (people.size() >= MOST_PEOPLE) {
            throw new IllegalStateException("there are 24 people");
        }
        people.add(new Person(home, flags));
        return people.size() - 1;
    }

    public int setFlags(int person, int flags) throws IndexOutOfBoundsException, IllegalArgumentException {
        Person found = personAt(person);
        checkFlags(flags);
        int before = found.flags;
        found.flags = flags;
        return before;
    }

    public int move(int person, int address) throws IndexOutOfBoundsException {
        Person found = personAt(person);
        Address home = addressAt(address);
        int before = found.home.number;
        found.home = home;
        if (found.reason == 'm') {
            found.reason = NO_REASON;
        }
        return before;
    }

    public char suppress(int person, char reason) throws IndexOutOfBoundsException, IllegalArgumentException {
        Person found = personAt(person);
        if (reason != 'm' && reason != 'd' && reason != 'o') {
            throw new IllegalArgumentException("there is no such reason");
        }
        char before = found.reason;
        found.reason = reason;
        return before;
    }

    public char allow(int person) throws IndexOutOfBoundsException, IllegalStateException {
        Person found = personAt(person);
        if (!found.isSuppressed() || found.reason == 'd') {
            throw new IllegalStateException("not suppressed, or suppressed as dead");
        }
        char before = found.reason;
        found.reason = NO_REASON;
        return before;
    }

    public int addressOf(int person) throws IndexOutOfBoundsException {
        return personAt(person).home.number;
    }

    public char reasonOf(int person) throws IndexOutOfBoundsException {
        return personAt(person).reason;
    }

    public int strikes(int address) throws IndexOutOfBoundsException {
        return addressAt(address).struck;
    }

    // ---- templates

    public int addTemplate() throws IllegalStateException {
        if (templates.size() >= MOST_TEMPLATES) {
            throw new IllegalStateException("there are 4 templates");
        }
        templates.add(new Template());
        return templates.size() - 1;
    }

    public int addPart(int template, int lines, int needs, int forbids)
            throws IndexOutOfBoundsException, IllegalArgumentException, IllegalStateException {
        Template found = templateAt(template);
        if (lines < 1 || lines > LINES_OF_A_PAGE) {
            throw new IllegalArgumentException("the lines are out of range");
        }
        checkFlags(needs);
        checkFlags(forbids);
        if (found.partCount >= MOST_PARTS || found.isUsed) {
            throw new IllegalStateException("it has 8 parts, or a run of it was made");
        }
        found.append(lines, needs, forbids);
        return found.partCount;
    }

    public int pagesFor(int template, int flags) throws IndexOutOfBoundsException, IllegalArgumentException {
        Template found = templateAt(template);
        checkFlags(flags);
        return found.pagesWith(flags);
    }

    // ---- stock

    public int buyPaper(int sheets) throws IllegalArgumentException, IllegalStateException {
        checkBuying(there.sheets, sheets);
        there.sheets += sheets;
        bought.sheets += sheets;
        return there.sheets;
    }

    public int buyEnvelopes(boolean areLarge, int number) throws IllegalArgumentException, IllegalStateException {
        checkBuying(there.envelopesOf(areLarge), number);
        there.addEnvelopes(areLarge, number);
        bought.addEnvelopes(areLarge, number);
        return there.envelopesOf(areLarge);
    }

    public int paper() {
        return there.sheets;
    }

    public int envelopes(boolean areLarge) {
        return there.envelopesOf(areLarge);
    }

    // ---- runs and returns

    public int run(int template, boolean byHouseholds) throws IndexOutOfBoundsException, IllegalStateException {
        Template found = templateAt(template);
        if (runs.size() >= MOST_RUNS) {
            throw new IllegalStateException("there are 10 runs");
        }
        goThroughPeople(found, byHouseholds);
        Run made = new Run(bound);
        for (int i = 0; i < people.size(); i++) {
            made.enter(new Entry(i, people.get(i), found));
        }
        made.chooseProof();
        for (int i = 0; i < addresses.size(); i++) {
            addresses.get(i).keepDraft();
        }
        there.copyFrom(left);
        found.isUsed = true;
        runs.add(made);
        return runs.size() - 1;
    }

    public char preview(int template, boolean byHouseholds, int person) throws IndexOutOfBoundsException {
        Template found = templateAt(template);
        Person asked = personAt(person);
        goThroughPeople(found, byHouseholds);
        return asked.draftOutcome;
    }

    public char previewAlone(int template, boolean byHouseholds, int person) throws IndexOutOfBoundsException {
        Template found = templateAt(template);
        personAt(person);
        return outcomeAlone(found, byHouseholds, person);
    }

    public char outcome(int run, int person) throws IndexOutOfBoundsException {
        return entryAt(run, person).outcome;
    }

    public int comesBack(int run, int person, char how)
            throws IndexOutOfBoundsException, IllegalArgumentException, IllegalStateException {
        Entry entry = entryAt(run, person);
        if (how != 'u' && how != 'm' && how != 'd') {
            throw new IllegalArgumentException("there is no such way to come back");
        }
        if (!entry.isLetter() || entry.isBack) {
            throw new IllegalStateException("no letter was made, or it has come back");
        }
        entry.isBack = true;
        if (how == 'u') {
            entry.person.home.struck++;
        } else {
            entry.person.reason = how;
        }
        return runAt(run).countBack();
    }

    public int setBound(int letters) throws IllegalArgumentException {
        if (letters < 1 || letters > MOST_BOUND) {
            throw new IllegalArgumentException("the bound is out of range");
        }
        int before = bound;
        bound = letters;
        return before;
    }

    public int letters(int run) throws IndexOutOfBoundsException {
        return runAt(run).posted.size();
    }

    public int postedAt(int run, int index) throws IndexOutOfBoundsException, NoSuchElementException {
        return numberAt(runAt(run).posted, index);
    }

    public int onRoute(int run, int tens) throws IndexOutOfBoundsException, IllegalArgumentException {
        Run found = runAt(run);
        if (tens < 0 || tens > MOST_TENS) {
            throw new IllegalArgumentException("the tens are out of range");
        }
        return found.countOnRoute(tens);
    }

    public int postage(int run, int person) throws IndexOutOfBoundsException, NoSuchElementException {
        Entry entry = entryAt(run, person);
        if (!entry.isLetter()) {
            throw new NoSuchElementException("no letter was made for the person");
        }
        return runAt(run).centsFor(entry);
    }

    public long costOf(int run) throws IndexOutOfBoundsException {
        return runAt(run).centsForAll();
    }

    public int proofAt(int run, int index) throws IndexOutOfBoundsException, NoSuchElementException {
        return numberAt(runAt(run).proof, index);
    }

    // ---- figures

    public float returnShare() throws ArithmeticException {
        int all = countLetters();
        if (all == 0) {
            throw new ArithmeticException("there are no letters");
        }
        int back = 0;
        for (int i = 0; i < runs.size(); i++) {
            back += runs.get(i).countBack();
        }
        return (float) back / (float) all;
    }

    public double meanPages() throws ArithmeticException {
        int all = countLetters();
        if (all == 0) {
            throw new ArithmeticException("there are no letters");
        }
        int pages = 0;
        for (int i = 0; i < runs.size(); i++) {
            pages += runs.get(i).countPages();
        }
        return (double) pages / (double) all;
    }

    public boolean isSound() {
        for (int i = 0; i < templates.size(); i++) {
            Template template = templates.get(i);
            if (!previewsAgree(template, false) || !previewsAgree(template, true)) {
                return false;
            }
        }
        return stockAddsUp();
    }

    // ---- looking things up

    private Address addressAt(int address) {
        if (address < 0 || address >= addresses.size()) {
            throw new IndexOutOfBoundsException("there is no such address");
        }
        Address found = addresses.get(address);
        if (found.isGone) {
            throw new IndexOutOfBoundsException("the address is gone");
        }
        return found;
    }

    private Person personAt(int person) {
        if (person < 0 || person >= people.size()) {
            throw new IndexOutOfBoundsException("there is no such person");
        }
        return people.get(person);
    }

    private Template templateAt(int template) {
        if (template < 0 || template >= templates.size()) {
            throw new IndexOutOfBoundsException("there is no such template");
        }
        return templates.get(template);
    }

    private Run runAt(int run) {
        if (run < 0 || run >= runs.size()) {
            throw new IndexOutOfBoundsException("there is no such run");
        }
        return runs.get(run);
    }

    private Entry entryAt(int run, int person) {
        ArrayList<Entry> entries = runAt(run).entries;
        if (person < 0 || person >= entries.size()) {
            throw new IndexOutOfBoundsException("the person was not there");
        }
        return entries.get(person);
    }

    private static int numberAt(ArrayList<Entry> row, int index) {
        if (index < 0 || index >= row.size()) {
            throw new NoSuchElementException("there is no such letter");
        }
        return row.get(index).number;
    }

    private static void checkFlags(int flags) {
        if (flags < 0 || flags > ALL_FLAGS) {
            throw new IllegalArgumentException("the flags are out of range");
        }
    }

    private static void checkBuying(int present, int number) {
        if (number < 1 || number > MOST_BOUGHT_AT_ONCE) {
            throw new IllegalArgumentException("the number is out of range");
        }
        if (present + number > MOST_KEPT) {
            throw new IllegalStateException("there would be more than 5000");
        }
    }

    // ---- the outcomes of a run that was made now, by going through all people

    /** Leaves each person's outcome, each address's strikes and the stock of such a run as drafts. */
    private void goThroughPeople(Template template, boolean byHouseholds) {
        beginDrafts();
        for (int i = 0; i < people.size(); i++) {
            Person person = people.get(i);
            person.draftOutcome = nextOutcome(person, template, byHouseholds);
        }
    }

    private void beginDrafts() {
        for (int i = 0; i < addresses.size(); i++) {
            addresses.get(i).beginDraft();
        }
        if (!runs.isEmpty()) {
            ArrayList<Entry> lettersBefore = runs.get(runs.size() - 1).posted;
            for (int i = 0; i < lettersBefore.size(); i++) {
                Entry letter = lettersBefore.get(i);
                if (!letter.isBack) {
                    letter.person.home.draftStruck = 0;
                }
            }
        }
        left.copyFrom(there);
    }

    private char nextOutcome(Person person, Template template, boolean byHouseholds) {
        if (person.isSuppressed()) {
            return 's';
        }
        Address home = person.home;
        if (home.draftStruck >= STRIKES_OF_A_BAD_ADDRESS) {
            return 'b';
        }
        int pages = template.pagesWith(person.flags);
        if (pages == 0) {
            return 'e';
        }
        if (byHouseholds && home.isDraftServed) {
            return 'h';
        }
        home.isDraftServed = true;
        return left.take(pages) ? 'l' : 'p';
    }

    // ---- the same outcome for one person alone

    private char outcomeAlone(Template template, boolean byHouseholds, int number) {
        char obstacle = obstacleFor(template, byHouseholds, number);
        if (obstacle != NOTHING_IN_THE_WAY) {
            return obstacle;
        }
        left.copyFrom(there);
        for (int lower = 0; lower < number; lower++) {
            if (obstacleFor(template, byHouseholds, lower) == NOTHING_IN_THE_WAY) {
                left.take(template.pagesWith(people.get(lower).flags));
            }
        }
        return left.take(template.pagesWith(people.get(number).flags)) ? 'l' : 'p';
    }

    /** What keeps a person from a letter, the stock aside. */
    private char obstacleFor(Template template, boolean byHouseholds, int number) {
        Person person = people.get(number);
        if (person.isSuppressed()) {
            return 's';
        }
        if (staysBad(person.home)) {
            return 'b';
        }
        if (template.pagesWith(person.flags) == 0) {
            return 'e';
        }
        if (byHouseholds && isHouseholdServedBefore(template, number)) {
            return 'h';
        }
        return NOTHING_IN_THE_WAY;
    }

    private boolean staysBad(Address home) {
        if (home.struck < STRIKES_OF_A_BAD_ADDRESS) {
            return false;
        }
        return runs.isEmpty() || !runs.get(runs.size() - 1).hasArrivedAt(home);
    }

    private boolean isHouseholdServedBefore(Template template, int number) {
        Address home = people.get(number).home;
        for (int lower = 0; lower < number; lower++) {
            Person other = people.get(lower);
            if (other.home == home && !other.isSuppressed() && template.pagesWith(other.flags) > 0) {
                return true;
            }
        }
        return false;
    }

    // ---- sums and checks

    private int countLetters() {
        int count = 0;
        for (int i = 0; i < runs.size(); i++) {
            count += runs.get(i).posted.size();
        }
        return count;
    }

    private boolean previewsAgree(Template template, boolean byHouseholds) {
        goThroughPeople(template, byHouseholds);
        for (int i = 0; i < people.size(); i++) {
            if (people.get(i).draftOutcome != outcomeAlone(template, byHouseholds, i)) {
                return false;
            }
        }
        return true;
    }

    private boolean stockAddsUp() {
        left.copyFrom(there);
        for (int i = 0; i < runs.size(); i++) {
            ArrayList<Entry> posted = runs.get(i).posted;
            for (int k = 0; k < posted.size(); k++) {
                left.putBack(posted.get(k).pages);
            }
        }
        return left.isAsMuchAs(bought);
    }

    /** An address; what a preview works out for it is kept in its drafts. */
    private static final class Address {
        final int number;
        final int code;
        int struck;
        boolean isGone;
        int draftStruck;
        boolean isDraftServed;

        Address(int number, int code) {
            this.number = number;
            this.code = code;
        }

        void beginDraft() {
            draftStruck = struck;
            isDraftServed = false;
        }

        void keepDraft() {
            struck = draftStruck;
        }
    }

    private static final class Person {
        Address home;
        int flags;
        char reason;
        char draftOutcome;

        Person(Address home, int flags) {
            this.home = home;
            this.flags = flags;
            reason = NO_REASON;
        }

        boolean isSuppressed() {
            return reason != NO_REASON;
        }
    }

    /** A template, with the letter of each set of flags laid out as its parts come. */
    private static final class Template {
        final int[] parts;
        final int[] pages;
        final int[] linesOnLastPage;
        int partCount;
        boolean isUsed;

        Template() {
            parts = new int[ALL_FLAGS + 1];
            pages = new int[ALL_FLAGS + 1];
            linesOnLastPage = new int[ALL_FLAGS + 1];
        }

        void append(int lines, int needs, int forbids) {
            for (int flags = 0; flags <= ALL_FLAGS; flags++) {
                if ((flags & needs) == needs && (flags & forbids) == 0) {
                    lay(flags, lines);
                }
            }
            partCount++;
        }

        private void lay(int flags, int lines) {
            int letter = flags & ALL_FLAGS;
            if (pages[letter] == 0 || linesOnLastPage[letter] + lines > LINES_OF_A_PAGE) {
                pages[letter]++;
                linesOnLastPage[letter] = 0;
            }
            linesOnLastPage[letter] += lines;
            parts[letter] |= 1 << partCount;
        }

        // The mask keeps the index inside the row, whatever the flags are.
        int pagesWith(int flags) {
            return pages[flags & ALL_FLAGS];
        }

        int partsWith(int flags) {
            return parts[flags & ALL_FLAGS];
        }
    }

    private static final class Stock {
        int sheets;
        int smallEnvelopes;
        int largeEnvelopes;

        void copyFrom(Stock other) {
            sheets = other.sheets;
            smallEnvelopes = other.smallEnvelopes;
            largeEnvelopes = other.largeEnvelopes;
        }

        boolean isAsMuchAs(Stock other) {
            return sheets == other.sheets
                    && smallEnvelopes == other.smallEnvelopes
                    && largeEnvelopes == other.largeEnvelopes;
        }

        int envelopesOf(boolean areLarge) {
            return areLarge ? largeEnvelopes : smallEnvelopes;
        }

        void addEnvelopes(boolean areLarge, int number) {
            if (areLarge) {
                largeEnvelopes += number;
            } else {
                smallEnvelopes += number;
            }
        }

        /** Takes what a letter needs if it is there, and tells whether it was. */
        boolean take(int pages) {
            boolean isLarge = needsLargeEnvelope(pages);
            if (pages > sheets || envelopesOf(isLarge) < 1) {
                return false;
            }
            sheets -= pages;
            addEnvelopes(isLarge, -1);
            return true;
        }

        void putBack(int pages) {
            sheets += pages;
            addEnvelopes(needsLargeEnvelope(pages), 1);
        }
    }

    private static boolean needsLargeEnvelope(int pages) {
        return pages > PAGES_OF_A_SMALL_ENVELOPE;
    }

    /** What a run made of one person, as it was then: a letter or the reason why there is none. */
    private static final class Entry {
        final int number;
        final Person person;
        final char outcome;
        final int code;
        final int pages;
        final int parts;
        boolean isBack;

        Entry(int number, Person person, Template template) {
            this.number = number;
            this.person = person;
            outcome = person.draftOutcome;
            code = person.home.code;
            pages = template.pagesWith(person.flags);
            parts = template.partsWith(person.flags);
        }

        boolean isLetter() {
            return outcome == 'l';
        }

        int tens() {
            return code / 10;
        }

        int fullCents() {
            int grams = 5 * pages + (needsLargeEnvelope(pages) ? 25 : 10);
            if (grams <= 20) {
                return 80;
            }
            return grams <= 40 ? 95 : 160;
        }
    }

    /** A run: an entry for each person of then, the letters as they are posted, and the proof. */
    private static final class Run {
        final int routeBound;
        final ArrayList<Entry> entries;
        final ArrayList<Entry> posted;
        final ArrayList<Entry> proof;

        Run(int routeBound) {
            this.routeBound = routeBound;
            entries = new ArrayList<>();
            posted = new ArrayList<>();
            proof = new ArrayList<>();
        }

        /** Entries come by rising numbers, so those of the same code stay in this order. */
        void enter(Entry entry) {
            entries.add(entry);
            if (entry.isLetter()) {
                posted.add(countUpToCode(entry.code), entry);
            }
        }

        private int countUpToCode(int code) {
            int count = 0;
            for (int i = 0; i < posted.size(); i++) {
                if (posted.get(i).code <= code) {
                    count++;
                }
            }
            return count;
        }

        /** Each letter of the proof has a part that is new, so there are no more than parts. */
        void chooseProof() {
            int seen = 0;
            for (int i = 0; i < MOST_PARTS; i++) {
                Entry next = letterWithMostNewParts(seen);
                if (next == null) {
                    return;
                }
                proof.add(next);
                seen |= next.parts;
            }
        }

        private Entry letterWithMostNewParts(int seen) {
            Entry best = null;
            int most = 0;
            for (int i = 0; i < entries.size(); i++) {
                Entry entry = entries.get(i);
                int fresh = Integer.bitCount(entry.parts & ~seen);
                if (entry.isLetter() && fresh > most) {
                    best = entry;
                    most = fresh;
                }
            }
            return best;
        }

        boolean hasArrivedAt(Address home) {
            for (int i = 0; i < posted.size(); i++) {
                Entry letter = posted.get(i);
                if (letter.person.home == home && !letter.isBack) {
                    return true;
                }
            }
            return false;
        }

        int countBack() {
            int count = 0;
            for (int i = 0; i < posted.size(); i++) {
                if (posted.get(i).isBack) {
                    count++;
                }
            }
            return count;
        }

        int countPages() {
            int count = 0;
            for (int i = 0; i < posted.size(); i++) {
                count += posted.get(i).pages;
            }
            return count;
        }

        int countOnRoute(int tens) {
            int count = 0;
            for (int i = 0; i < posted.size(); i++) {
                if (posted.get(i).tens() == tens) {
                    count++;
                }
            }
            return count;
        }

        int centsFor(Entry letter) {
            int cents = letter.fullCents();
            if (countOnRoute(letter.tens()) >= routeBound) {
                cents -= cents / 5;
            }
            return cents;
        }

        long centsForAll() {
            long sum = 0;
            for (int i = 0; i < posted.size(); i++) {
                sum += centsFor(posted.get(i));
            }
            return sum;
        }
    }
}
