import java.util.ArrayList;
import java.util.Comparator;
import java.util.HashSet;
import java.util.List;
import java.util.NoSuchElementException;
import java.util.Set;
import java.util.TreeMap;

/**
 * The document a second time, as plainly as it can be written and without a line of the program:
 * sets and maps made anew for each call. ModelTest holds the program's answers against it.
 */
final class Model {
    private record Part(int lines, Set<Integer> needs, Set<Integer> forbids) {
    }

    private record Letter(int run, int person, int code, int pages, Set<Integer> parts) {
    }

    private final List<Integer> codes = new ArrayList<>();
    private final List<Integer> strikesOf = new ArrayList<>();
    private final Set<Integer> gone = new HashSet<>();
    private final List<Integer> homes = new ArrayList<>();
    private final List<Integer> flagsOf = new ArrayList<>();
    private final List<Character> reasons = new ArrayList<>();
    private final List<List<Part>> templates = new ArrayList<>();
    private final Set<Integer> usedTemplates = new HashSet<>();
    private final List<List<Character>> outcomes = new ArrayList<>();
    private final List<TreeMap<Integer, Letter>> lettersOf = new ArrayList<>();
    private final List<Integer> bounds = new ArrayList<>();
    private final Set<Letter> back = new HashSet<>();
    private final int[] stock = new int[3];
    private int bound = 3;

    private static Set<Integer> set(int bits) {
        Set<Integer> members = new HashSet<>();
        for (int k = 0; k < 32; k++) {
            if ((bits >> k & 1) == 1) {
                members.add(k);
            }
        }
        return members;
    }

    private void needAddress(int address) {
        if (address < 0 || address >= codes.size() || gone.contains(address)) {
            throw new IndexOutOfBoundsException();
        }
    }

    private static void needIndex(int index, int size) {
        if (index < 0 || index >= size) {
            throw new IndexOutOfBoundsException();
        }
    }

    private static void needRange(int number, int from, int to) {
        if (number < from || number > to) {
            throw new IllegalArgumentException();
        }
    }

    private static void needState(boolean holds) {
        if (!holds) {
            throw new IllegalStateException();
        }
    }

    int addAddress(int code) {
        needRange(code, 0, 99);
        needState(codes.size() != 12);
        codes.add(code);
        strikesOf.add(0);
        return codes.size() - 1;
    }

    int join(int address, int other) {
        needAddress(address);
        needAddress(other);
        if (address == other) {
            throw new IllegalArgumentException();
        }
        int count = 0;
        for (int p = 0; p < homes.size(); p++) {
            if (homes.get(p) == other) {
                homes.set(p, address);
                count++;
            }
        }
        strikesOf.set(address, strikesOf.get(address) + strikesOf.get(other));
        gone.add(other);
        return count;
    }

    int addPerson(int address, int flags) {
        needAddress(address);
        needRange(flags, 0, 7);
        needState(homes.size() != 24);
        homes.add(address);
        flagsOf.add(flags);
        reasons.add('-');
        return homes.size() - 1;
    }

    int setFlags(int person, int flags) {
        needIndex(person, homes.size());
        needRange(flags, 0, 7);
        return flagsOf.set(person, flags);
    }

    int move(int person, int address) {
        needIndex(person, homes.size());
        needAddress(address);
        if (reasons.get(person) == 'm') {
            reasons.set(person, '-');
        }
        return homes.set(person, address);
    }

    char suppress(int person, char reason) {
        needIndex(person, homes.size());
        if ("mdo".indexOf(reason) < 0) {
            throw new IllegalArgumentException();
        }
        return reasons.set(person, reason);
    }

    char allow(int person) {
        needIndex(person, homes.size());
        needState("mo".indexOf(reasons.get(person)) >= 0);
        return reasons.set(person, '-');
    }

    int addressOf(int person) {
        needIndex(person, homes.size());
        return homes.get(person);
    }

    char reasonOf(int person) {
        needIndex(person, homes.size());
        return reasons.get(person);
    }

    int strikes(int address) {
        needAddress(address);
        return strikesOf.get(address);
    }

    int addTemplate() {
        needState(templates.size() != 4);
        templates.add(new ArrayList<>());
        return templates.size() - 1;
    }

    int addPart(int template, int lines, int needs, int forbids) {
        needIndex(template, templates.size());
        needRange(lines, 1, 40);
        needRange(needs, 0, 7);
        needRange(forbids, 0, 7);
        needState(templates.get(template).size() != 8 && !usedTemplates.contains(template));
        templates.get(template).add(new Part(lines, set(needs), set(forbids)));
        return templates.get(template).size();
    }

    private Set<Integer> partsFor(int template, int flags) {
        Set<Integer> indices = new HashSet<>();
        List<Part> parts = templates.get(template);
        for (int k = 0; k < parts.size(); k++) {
            Set<Integer> forbidden = new HashSet<>(parts.get(k).forbids());
            forbidden.retainAll(set(flags));
            if (set(flags).containsAll(parts.get(k).needs()) && forbidden.isEmpty()) {
                indices.add(k);
            }
        }
        return indices;
    }

    int pagesFor(int template, int flags) {
        needIndex(template, templates.size());
        needRange(flags, 0, 7);
        int pages = 0;
        int room = 0;
        Set<Integer> chosen = partsFor(template, flags);
        for (int k = 0; k < 8; k++) {
            if (chosen.contains(k)) {
                int lines = templates.get(template).get(k).lines();
                if (lines > room) {
                    pages++;
                    room = 40;
                }
                room -= lines;
            }
        }
        return pages;
    }

    private int buy(int kind, int number) {
        needRange(number, 1, 500);
        needState(stock[kind] + number <= 5000);
        stock[kind] += number;
        return stock[kind];
    }

    int buyPaper(int sheets) {
        return buy(0, sheets);
    }

    int buyEnvelopes(boolean areLarge, int number) {
        return buy(areLarge ? 2 : 1, number);
    }

    int paper() {
        return stock[0];
    }

    int envelopes(boolean areLarge) {
        return stock[areLarge ? 2 : 1];
    }

    private List<Integer> strikesWhenBegun() {
        List<Integer> begun = new ArrayList<>(strikesOf);
        if (!lettersOf.isEmpty()) {
            for (Letter letter : lettersOf.get(lettersOf.size() - 1).values()) {
                if (!back.contains(letter)) {
                    begun.set(homes.get(letter.person()), 0);
                }
            }
        }
        return begun;
    }

    private boolean hasParts(int template, int person) {
        return !partsFor(template, flagsOf.get(person)).isEmpty();
    }

    /** The outcomes of a run made now; takes what its letters need out of the stock given. */
    private List<Character> outcomesNow(int template, boolean byHouseholds, int[] left) {
        List<Integer> begun = strikesWhenBegun();
        List<Character> answers = new ArrayList<>();
        for (int p = 0; p < homes.size(); p++) {
            boolean isSecond = false;
            for (int q = 0; q < p; q++) {
                isSecond |= homes.get(q).equals(homes.get(p)) && reasons.get(q) == '-' && hasParts(template, q);
            }
            int pages = pagesFor(template, flagsOf.get(p));
            int envelope = pages <= 3 ? 1 : 2;
            if (reasons.get(p) != '-') {
                answers.add('s');
            } else if (begun.get(homes.get(p)) >= 2) {
                answers.add('b');
            } else if (!hasParts(template, p)) {
                answers.add('e');
            } else if (byHouseholds && isSecond) {
                answers.add('h');
            } else if (left[0] < pages || left[envelope] == 0) {
                answers.add('p');
            } else {
                answers.add('l');
                left[0] -= pages;
                left[envelope]--;
            }
        }
        return answers;
    }

    int run(int template, boolean byHouseholds) {
        needIndex(template, templates.size());
        needState(outcomes.size() != 10);
        int number = outcomes.size();
        List<Character> answers = outcomesNow(template, byHouseholds, stock);
        List<Integer> begun = strikesWhenBegun();
        for (int a = 0; a < begun.size(); a++) {
            strikesOf.set(a, begun.get(a));
        }
        TreeMap<Integer, Letter> letters = new TreeMap<>();
        for (int p = 0; p < answers.size(); p++) {
            if (answers.get(p) == 'l') {
                int flags = flagsOf.get(p);
                letters.put(p, new Letter(number, p, codes.get(homes.get(p)), pagesFor(template, flags),
                        partsFor(template, flags)));
            }
        }
        outcomes.add(answers);
        lettersOf.add(letters);
        bounds.add(bound);
        usedTemplates.add(template);
        return number;
    }

    char preview(int template, boolean byHouseholds, int person) {
        needIndex(template, templates.size());
        needIndex(person, homes.size());
        return outcomesNow(template, byHouseholds, stock.clone()).get(person);
    }

    char previewAlone(int template, boolean byHouseholds, int person) {
        return preview(template, byHouseholds, person);
    }

    char outcome(int run, int person) {
        needIndex(run, outcomes.size());
        needIndex(person, outcomes.get(run).size());
        return outcomes.get(run).get(person);
    }

    private int backOf(int run) {
        int count = 0;
        for (Letter letter : back) {
            count += letter.run() == run ? 1 : 0;
        }
        return count;
    }

    int comesBack(int run, int person, char how) {
        outcome(run, person);
        if ("umd".indexOf(how) < 0) {
            throw new IllegalArgumentException();
        }
        Letter letter = lettersOf.get(run).get(person);
        needState(letter != null && !back.contains(letter));
        back.add(letter);
        if (how == 'u') {
            strikesOf.set(homes.get(person), strikesOf.get(homes.get(person)) + 1);
        } else {
            reasons.set(person, how);
        }
        return backOf(run);
    }

    int setBound(int letters) {
        needRange(letters, 1, 24);
        int before = bound;
        bound = letters;
        return before;
    }

    int letters(int run) {
        needIndex(run, lettersOf.size());
        return lettersOf.get(run).size();
    }

    int postedAt(int run, int index) {
        needIndex(run, lettersOf.size());
        List<Letter> row = new ArrayList<>(lettersOf.get(run).values());
        row.sort(Comparator.comparingInt(Letter::code).thenComparingInt(Letter::person));
        if (index < 0 || index >= row.size()) {
            throw new NoSuchElementException();
        }
        return row.get(index).person();
    }

    int onRoute(int run, int tens) {
        needIndex(run, lettersOf.size());
        needRange(tens, 0, 9);
        int count = 0;
        for (Letter letter : lettersOf.get(run).values()) {
            count += letter.code() / 10 == tens ? 1 : 0;
        }
        return count;
    }

    int postage(int run, int person) {
        outcome(run, person);
        Letter letter = lettersOf.get(run).get(person);
        if (letter == null) {
            throw new NoSuchElementException();
        }
        int grams = 5 * letter.pages() + (letter.pages() > 3 ? 25 : 10);
        int cents = grams <= 20 ? 80 : grams <= 40 ? 95 : 160;
        int fifth = (int) Math.floor(cents / 5.0);
        return onRoute(run, letter.code() / 10) >= bounds.get(run) ? cents - fifth : cents;
    }

    long costOf(int run) {
        needIndex(run, lettersOf.size());
        long sum = 0;
        for (int person : lettersOf.get(run).keySet()) {
            sum += postage(run, person);
        }
        return sum;
    }

    int proofAt(int run, int index) {
        needIndex(run, lettersOf.size());
        List<Integer> proof = new ArrayList<>();
        Set<Integer> seen = new HashSet<>();
        while (true) {
            int best = -1;
            int most = 0;
            for (Letter letter : lettersOf.get(run).descendingMap().values()) {
                Set<Integer> fresh = new HashSet<>(letter.parts());
                fresh.removeAll(seen);
                if (!fresh.isEmpty() && fresh.size() >= most) {
                    most = fresh.size();
                    best = letter.person();
                }
            }
            if (best < 0) {
                break;
            }
            proof.add(best);
            seen.addAll(lettersOf.get(run).get(best).parts());
        }
        if (index < 0 || index >= proof.size()) {
            throw new NoSuchElementException();
        }
        return proof.get(index);
    }

    private List<Letter> allLetters() {
        List<Letter> all = new ArrayList<>();
        for (TreeMap<Integer, Letter> letters : lettersOf) {
            all.addAll(letters.values());
        }
        if (all.isEmpty()) {
            throw new ArithmeticException();
        }
        return all;
    }

    float returnShare() {
        return (float) back.size() / (float) allLetters().size();
    }

    double meanPages() {
        int pages = 0;
        for (Letter letter : allLetters()) {
            pages += letter.pages();
        }
        return (double) pages / (double) allLetters().size();
    }

    boolean isSound() {
        return true;
    }
}
