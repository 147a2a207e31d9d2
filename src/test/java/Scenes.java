/** Factories that the tests of single sentences begin with. */
final class Scenes {
    static final int PLENTY = 500;

    private Scenes() {
    }

    /** Addresses alone, of the codes 0, 1, 2 and so on. */
    static Mailmerge addresses(int count) {
        Mailmerge made = new Mailmerge();
        for (int code = 0; code < count; code++) {
            made.addAddress(code);
        }
        return made;
    }

    /** Three addresses of which the last one is gone, and one person at each of the others. */
    static Mailmerge withOneGone() {
        Mailmerge made = addresses(3);
        made.addPerson(0, 5);
        made.addPerson(2, 2);
        made.join(1, 2);
        return made;
    }

    /** People without flags at one address, and nothing else. */
    static Mailmerge people(int count) {
        Mailmerge made = addresses(1);
        addPeople(made, count);
        return made;
    }

    static void addPeople(Mailmerge made, int count) {
        for (int i = 0; i < count; i++) {
            made.addPerson(0, 0);
        }
    }

    static Mailmerge templates(int count) {
        Mailmerge made = new Mailmerge();
        for (int i = 0; i < count; i++) {
            made.addTemplate();
        }
        return made;
    }

    /** One template with parts of these lines for everybody. */
    static Mailmerge parts(int... lines) {
        Mailmerge made = templates(1);
        addParts(made, 0, lines);
        return made;
    }

    static void addParts(Mailmerge made, int template, int... lines) {
        for (int each : lines) {
            made.addPart(template, each, 0, 0);
        }
    }

    static void buyPlenty(Mailmerge made) {
        made.buyPaper(PLENTY);
        made.buyEnvelopes(false, PLENTY);
        made.buyEnvelopes(true, PLENTY);
    }

    /** People at one address, a template with one part of ten lines for everybody, and plenty of stock. */
    static Mailmerge stocked(int people) {
        Mailmerge made = people(people);
        made.addTemplate();
        addParts(made, 0, 10);
        buyPlenty(made);
        return made;
    }

    static Mailmerge ran(int people, int runs) {
        Mailmerge made = stocked(people);
        for (int i = 0; i < runs; i++) {
            made.run(0, false);
        }
        return made;
    }

    /** A run of one person, and a second person who came later. */
    static Mailmerge oneCameLater() {
        Mailmerge made = ran(1, 1);
        made.addPerson(0, 0);
        return made;
    }

    /** One run, of which the letters to the first people came back as unknown. */
    static Mailmerge struck(int people, int times) {
        Mailmerge made = ran(people, 1);
        for (int person = 0; person < times; person++) {
            made.comesBack(0, person, 'u');
        }
        return made;
    }

    /** A run of letters to one person at an address of each of these codes, of one page each. */
    static Mailmerge ranTo(int... codes) {
        Mailmerge made = new Mailmerge();
        for (int i = 0; i < codes.length; i++) {
            made.addAddress(codes[i]);
            made.addPerson(i, 0);
        }
        made.addTemplate();
        addParts(made, 0, 10);
        buyPlenty(made);
        made.run(0, false);
        return made;
    }

    /** A run by households has the outcomes "bselhpb" then: one letter, and every reason why there is none. */
    static Mailmerge beforeAllOutcomes() {
        Mailmerge made = new Mailmerge();
        made.addAddress(10);
        made.addAddress(20);
        made.addAddress(30);
        int[] homes = {0, 1, 1, 1, 1, 2, 0};
        int[] flags = {0, 0, 1, 0, 0, 0, 0};
        for (int person = 0; person < homes.length; person++) {
            made.addPerson(homes[person], flags[person]);
        }
        made.addTemplate();
        made.addPart(0, 10, 0, 1);
        made.buyPaper(7);
        made.buyEnvelopes(false, 7);
        made.run(0, false);
        made.comesBack(0, 0, 'u');
        made.comesBack(0, 6, 'u');
        made.suppress(1, 'o');
        return made;
    }

    static Mailmerge allOutcomes() {
        Mailmerge made = beforeAllOutcomes();
        made.run(0, true);
        return made;
    }

    static String outcomes(Mailmerge made, int run, int people) {
        StringBuilder row = new StringBuilder();
        for (int person = 0; person < people; person++) {
            row.append(made.outcome(run, person));
        }
        return row.toString();
    }

    static String previews(Mailmerge made, int template, boolean byHouseholds, int people) {
        StringBuilder row = new StringBuilder();
        for (int person = 0; person < people; person++) {
            row.append(made.preview(template, byHouseholds, person));
        }
        return row.toString();
    }

    static String previewsAlone(Mailmerge made, int template, boolean byHouseholds, int people) {
        StringBuilder row = new StringBuilder();
        for (int person = 0; person < people; person++) {
            row.append(made.previewAlone(template, byHouseholds, person));
        }
        return row.toString();
    }
}
