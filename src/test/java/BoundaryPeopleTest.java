/** The boundary cases of addresses and people, sentence by sentence. */
public final class BoundaryPeopleTest {
    private static final Class<IllegalArgumentException> ARGUMENT = IllegalArgumentException.class;
    private static final Class<IllegalStateException> STATE = IllegalStateException.class;
    private static final Class<IndexOutOfBoundsException> INDEX = IndexOutOfBoundsException.class;
    private static final char[] NO_REASON = {'-', 'u', 's', 'M', 'D', 'O', 'l', 'n', 'c', 'e', 'p', 0, 'm' + 256, 65535};

    public static void main(String[] args) {
        newObject();
        addAddress();
        addAddressRefused();
        join();
        joinRefused();
        gone();
        addPerson();
        addPersonRefused();
        setFlags();
        move();
        moveRefused();
        suppress();
        suppressRefused();
        allow();
        addressOf();
        reasonOf();
        strikes();
        Sentences.end("BoundaryPeopleTest", 1, 11);
    }

    private static void newObject() {
        Sentences.holds(1, "Creates a factory without addresses", () -> {
            Check.refuses("strikes", INDEX, () -> new Mailmerge().strikes(0));
            Check.refuses("addPerson", INDEX, () -> new Mailmerge().addPerson(0, 0));
            Check.same("the first address", new Mailmerge().addAddress(0), 0);
        });
        Sentences.holds(1, "without addresses, people", () -> {
            Check.refuses("addressOf", INDEX, () -> new Mailmerge().addressOf(0));
            Check.refuses("reasonOf", INDEX, () -> new Mailmerge().reasonOf(0));
            Check.same("the first person", Scenes.addresses(1).addPerson(0, 0), 0);
        });
        Sentences.holds(1, "and templates", () -> {
            Check.refuses("pagesFor", INDEX, () -> new Mailmerge().pagesFor(0, 0));
            Check.refuses("run", INDEX, () -> new Mailmerge().run(0, false));
            Check.same("the first template", new Mailmerge().addTemplate(), 0);
        });
        Sentences.holds(1, "and without stock", () -> {
            Check.same("paper", new Mailmerge().paper(), 0);
            Check.same("small envelopes", new Mailmerge().envelopes(false), 0);
            Check.same("large envelopes", new Mailmerge().envelopes(true), 0);
        });
    }

    private static void addAddress() {
        Sentences.holds(2, "- `code`: its code, 0 to 99", () -> {
            Mailmerge made = Scenes.ranTo(0, 99);
            Check.same("the code 0", made.onRoute(0, 0), 1);
            Check.same("the code 99", made.onRoute(0, 9), 1);
            Check.same("the lowest code is posted first", made.postedAt(0, 0), 0);
        });
        Sentences.holds(2, "Returns the number of the address.", () -> {
            Mailmerge made = new Mailmerge();
            for (int number = 0; number < 12; number++) {
                Check.same("the number", made.addAddress(7), number);
            }
        });
        Sentences.holds(Sentences.TERMS, "At most 12 addresses exist, numbered from 0.", () -> {
            Mailmerge made = Scenes.addresses(12);
            for (int address = 0; address < 12; address++) {
                Check.same("addPerson", made.addPerson(address, 0), address);
                Check.same("the address", made.addressOf(address), address);
            }
            Check.refuses("addPerson at a thirteenth one", INDEX, () -> made.addPerson(12, 0));
        });
        Sentences.holds(Sentences.TERMS, "strikes, 0 at first", () -> {
            Mailmerge made = Scenes.addresses(12);
            for (int address = 0; address < 12; address++) {
                Check.same("strikes", made.strikes(address), 0);
            }
        });
    }

    private static void addAddressRefused() {
        Sentences.holds(2, "Throws `IllegalArgumentException` if the code is out of range", () -> {
            for (int wrong : Sentences.outside(0, 99)) {
                Sentences.refused(() -> Scenes.addresses(0), ARGUMENT, made -> made.addAddress(wrong));
                Sentences.refused(() -> Scenes.addresses(11), ARGUMENT, made -> made.addAddress(wrong));
            }
        });
        Sentences.holds(2, "Throws `IllegalStateException` if there were 12 addresses", () -> {
            Check.same("the twelfth", Scenes.addresses(11).addAddress(99), 11);
            Sentences.refused(() -> Scenes.addresses(12), STATE, made -> made.addAddress(0));
            Sentences.refused(() -> Scenes.addresses(12), STATE, made -> made.addAddress(99));
        });
        Sentences.holds(2, "if there were 12 addresses", () -> {
            Sentences.refused(BoundaryPeopleTest::elevenOfTwelveGone, STATE, made -> made.addAddress(5));
            Mailmerge made = Scenes.withOneGone();
            Check.same("the number of one that is gone is not given again", made.addAddress(5), 3);
        });
        Sentences.holds(Sentences.TERMS, "If several exceptions apply, the exception that is listed first is thrown.",
                () -> {
            Sentences.refused(() -> Scenes.addresses(12), ARGUMENT, made -> made.addAddress(100));
            Sentences.refused(() -> Scenes.addresses(12), ARGUMENT, made -> made.addAddress(-1));
        });
    }

    private static Mailmerge elevenOfTwelveGone() {
        Mailmerge made = Scenes.addresses(12);
        for (int other = 1; other < 12; other++) {
            made.join(0, other);
        }
        return made;
    }

    private static void join() {
        Sentences.holds(3, "all people of the second one have the first one then", () -> {
            Mailmerge made = Scenes.people(24);
            made.addAddress(1);
            made.join(1, 0);
            for (int person = 0; person < 24; person++) {
                Check.same("the address", made.addressOf(person), 1);
            }
        });
        Sentences.holds(3, "all people of the second one", () -> {
            Mailmerge made = Scenes.addresses(3);
            made.addPerson(0, 0);
            made.addPerson(1, 0);
            made.addPerson(2, 0);
            made.join(0, 2);
            Check.same("of the first one", made.addressOf(0), 0);
            Check.same("of neither", made.addressOf(1), 1);
            Check.same("of the second one", made.addressOf(2), 0);
        });
        Sentences.holds(Sentences.TERMS, "can be suppressed: 'm' as moved, 'd' as dead, 'o' as wished", () -> {
            for (char reason : new char[] {'m', 'd', 'o'}) {
                Mailmerge made = suppressed(reason);
                made.addAddress(1);
                Check.same("join moves a suppressed person", made.join(1, 0), 1);
                Check.same("the address", made.addressOf(0), 1);
                Check.same("the reason", made.reasonOf(0), reason);
            }
        });
        Sentences.holds(3, "which gets the strikes of the second one besides", () -> {
            Check.same("0 and 0", joinedStrikes(0, 0), 0);
            Check.same("0 and 1", joinedStrikes(0, 1), 1);
            Check.same("1 and 0", joinedStrikes(1, 0), 1);
            Check.same("1 and 1", joinedStrikes(1, 1), 2);
            Check.same("3 and 2", joinedStrikes(3, 2), 5);
        });
        Sentences.holds(3, "Returns the number of people who get another address by this.", () -> {
            Check.same("nobody anywhere", Scenes.addresses(2).join(0, 1), 0);
            Mailmerge made = Scenes.people(24);
            made.addAddress(1);
            made.addAddress(2);
            Check.same("nobody at the second one", made.join(0, 1), 0);
            Check.same("24 at the second one", made.join(2, 0), 24);
        });
    }

    /** The strikes of two joined addresses that had so many before. */
    private static int joinedStrikes(int first, int second) {
        Mailmerge made = Scenes.stocked(0);
        made.addAddress(50);
        for (int person = 0; person < first + second; person++) {
            made.addPerson(person < first ? 0 : 1, 0);
        }
        made.run(0, false);
        for (int person = 0; person < first + second; person++) {
            made.comesBack(0, person, 'u');
        }
        made.join(0, 1);
        return made.strikes(0);
    }

    private static void joinRefused() {
        Sentences.holds(3, "Throws `IndexOutOfBoundsException` if there is no such address, or it is gone, for either",
                () -> {
            for (int wrong : Sentences.noIndex(3)) {
                Sentences.refused(Scenes::withOneGone, INDEX, made -> made.join(wrong, 0));
                Sentences.refused(Scenes::withOneGone, INDEX, made -> made.join(0, wrong));
            }
            Sentences.refused(Scenes::withOneGone, INDEX, made -> made.join(2, 0));
            Sentences.refused(Scenes::withOneGone, INDEX, made -> made.join(0, 2));
            Sentences.refused(() -> Scenes.addresses(12), INDEX, made -> made.join(0, 12));
            Sentences.refused(() -> Scenes.addresses(12), INDEX, made -> made.join(12, 0));
        });
        Sentences.holds(3, "Throws `IllegalArgumentException` if both are the same", () -> {
            Sentences.refused(Scenes::withOneGone, ARGUMENT, made -> made.join(0, 0));
            Sentences.refused(Scenes::withOneGone, ARGUMENT, made -> made.join(1, 1));
            Sentences.refused(() -> Scenes.struck(2, 1), ARGUMENT, made -> made.join(0, 0));
            Sentences.refused(() -> Scenes.addresses(12), ARGUMENT, made -> made.join(11, 11));
        });
        Sentences.holds(Sentences.TERMS, "the exception that is listed first is thrown", () -> {
            Sentences.refused(Scenes::withOneGone, INDEX, made -> made.join(2, 2));
            Sentences.refused(Scenes::withOneGone, INDEX, made -> made.join(3, 3));
            Sentences.refused(Scenes::withOneGone, INDEX, made -> made.join(-1, -1));
        });
    }

    private static void gone() {
        Sentences.holds(Sentences.TERMS, "Two addresses can be joined: the second one is gone then.", () -> {
            Mailmerge made = Scenes.addresses(2);
            made.join(1, 0);
            Check.refuses("strikes of the second one", INDEX, () -> made.strikes(0));
            Check.same("strikes of the first one", made.strikes(1), 0);
            Check.same("addPerson at the first one", made.addPerson(1, 0), 0);
        });
        Sentences.holds(Sentences.TERMS, "Two addresses can be joined", () -> {
            Mailmerge made = elevenOfTwelveGone();
            Check.same("the one that is left", made.strikes(0), 0);
            for (int i = 1; i < 12; i++) {
                int other = i;
                Check.refuses("one that is gone", INDEX, () -> made.strikes(other));
            }
        });
    }

    private static void addPerson() {
        Sentences.holds(4, "Adds a person who is not suppressed.", () -> {
            Mailmerge made = Scenes.people(24);
            Check.same("the first one", made.reasonOf(0), '-');
            Check.same("the last one", made.reasonOf(23), '-');
        });
        Sentences.holds(4, "- `flags`: the flags, 0 to 7, in which the bit k is 1 if the flag k belongs to them", () -> {
            Mailmerge made = Scenes.templates(3);
            for (int flag = 0; flag < 3; flag++) {
                made.addPart(flag, 1, 1 << flag, 0);
            }
            Scenes.buyPlenty(made);
            made.addAddress(0);
            for (int flags = 0; flags < 8; flags++) {
                made.addPerson(0, flags);
            }
            Check.same("flag 0", Scenes.previews(made, 0, false, 8), "elelelel");
            Check.same("flag 1", Scenes.previews(made, 1, false, 8), "eelleell");
            Check.same("flag 2", Scenes.previews(made, 2, false, 8), "eeeellll");
        });
        Sentences.holds(4, "Returns the number of the person.", () -> {
            Mailmerge made = Scenes.addresses(2);
            for (int number = 0; number < 24; number++) {
                Check.same("the number", made.addPerson(number % 2, number % 8), number);
            }
        });
        Sentences.holds(Sentences.TERMS, "At most 24 people exist, numbered from 0.", () -> {
            Mailmerge made = Scenes.people(24);
            Check.same("the first one", made.addressOf(0), 0);
            Check.same("the last one", made.addressOf(23), 0);
            Check.refuses("one more", INDEX, () -> made.addressOf(24));
        });
        Sentences.holds(Sentences.TERMS, "flags, which are a set of the numbers 0 to 2", () -> {
            Mailmerge made = Scenes.people(0);
            made.addPerson(0, 0);
            made.addPerson(0, 7);
            Check.same("none", made.setFlags(0, 7), 0);
            Check.same("all three", made.setFlags(1, 0), 7);
        });
    }

    private static void addPersonRefused() {
        Sentences.holds(4, "Throws `IndexOutOfBoundsException` if there is no such address, or it is gone", () -> {
            for (int wrong : Sentences.noIndex(3)) {
                Sentences.refused(Scenes::withOneGone, INDEX, made -> made.addPerson(wrong, 0));
            }
            Sentences.refused(Scenes::withOneGone, INDEX, made -> made.addPerson(2, 0));
            Sentences.refused(() -> Scenes.addresses(0), INDEX, made -> made.addPerson(0, 0));
            Sentences.refused(() -> Scenes.addresses(12), INDEX, made -> made.addPerson(12, 0));
        });
        Sentences.holds(4, "Throws `IllegalArgumentException` if the flags are out of range", () -> {
            for (int wrong : Sentences.outside(0, 7)) {
                Sentences.refused(() -> Scenes.people(0), ARGUMENT, made -> made.addPerson(0, wrong));
                Sentences.refused(() -> Scenes.people(23), ARGUMENT, made -> made.addPerson(0, wrong));
            }
        });
        Sentences.holds(4, "Throws `IllegalStateException` if there are 24 people", () -> {
            Check.same("the 24th", Scenes.people(23).addPerson(0, 7), 23);
            Sentences.refused(() -> Scenes.people(24), STATE, made -> made.addPerson(0, 0));
            Sentences.refused(() -> Scenes.people(24), STATE, made -> made.addPerson(0, 7));
        });
        Sentences.holds(Sentences.TERMS, "the exception that is listed first is thrown", () -> {
            Sentences.refused(Scenes::withOneGone, INDEX, made -> made.addPerson(2, 8));
            Sentences.refused(Scenes::withOneGone, INDEX, made -> made.addPerson(3, -1));
            Sentences.refused(() -> Scenes.people(24), INDEX, made -> made.addPerson(1, 0));
            Sentences.refused(() -> Scenes.people(24), ARGUMENT, made -> made.addPerson(0, 8));
        });
    }

    private static void setFlags() {
        Sentences.holds(5, "- `flags`: the flags, 0 to 7", () -> {
            Mailmerge made = Scenes.people(24);
            Check.same("to 7", made.setFlags(23, 7), 0);
            Check.same("to 0", made.setFlags(23, 0), 7);
            Check.same("of another person", made.setFlags(0, 7), 0);
        });
        Sentences.holds(5, "Returns the flags before the call.", () -> {
            Mailmerge made = Scenes.people(1);
            for (int flags = 1; flags < 8; flags++) {
                Check.same("the flags before", made.setFlags(0, flags), flags - 1);
            }
            Check.same("to the same", made.setFlags(0, 7), 7);
            Check.same("the same", made.setFlags(0, 0), 7);
        });
        Sentences.holds(5, "Throws `IndexOutOfBoundsException` if there is no such person", () -> {
            for (int wrong : Sentences.noIndex(2)) {
                Sentences.refused(Scenes::withOneGone, INDEX, made -> made.setFlags(wrong, 1));
            }
            Sentences.refused(() -> Scenes.people(0), INDEX, made -> made.setFlags(0, 1));
            Sentences.refused(() -> Scenes.people(24), INDEX, made -> made.setFlags(24, 1));
        });
        Sentences.holds(5, "Throws `IllegalArgumentException` if the flags are out of range", () -> {
            for (int wrong : Sentences.outside(0, 7)) {
                Sentences.refused(Scenes::withOneGone, ARGUMENT, made -> made.setFlags(0, wrong));
            }
        });
        Sentences.holds(Sentences.TERMS, "the exception that is listed first is thrown", () -> {
            Sentences.refused(Scenes::withOneGone, INDEX, made -> made.setFlags(2, 8));
            Sentences.refused(Scenes::withOneGone, INDEX, made -> made.setFlags(-1, -1));
        });
    }

    private static void move() {
        Sentences.holds(6, "Moves a person to an address", () -> {
            Mailmerge made = Scenes.addresses(12);
            made.addPerson(0, 0);
            made.addPerson(0, 0);
            made.move(0, 11);
            Check.same("to the last one", made.addressOf(0), 11);
            Check.same("another person", made.addressOf(1), 0);
            made.move(0, 0);
            Check.same("to the first one", made.addressOf(0), 0);
        });
        Sentences.holds(6, "one who is suppressed as moved is not any more", () -> {
            Check.same("as moved", reasonAfterMove('m', 1), '-');
            Check.same("as moved, to the same address", reasonAfterMove('m', 0), '-');
            Check.same("as dead", reasonAfterMove('d', 1), 'd');
            Check.same("as wished", reasonAfterMove('o', 1), 'o');
        });
        Sentences.holds(6, "Returns the number of the address before the call.", () -> {
            Mailmerge made = Scenes.addresses(12);
            made.addPerson(11, 0);
            Check.same("from the last one", made.move(0, 11), 11);
            Check.same("from the same", made.move(0, 0), 11);
            Check.same("from the first one", made.move(0, 1), 0);
        });
    }

    private static char reasonAfterMove(char reason, int address) {
        Mailmerge made = Scenes.people(1);
        made.addAddress(1);
        made.suppress(0, reason);
        made.move(0, address);
        return made.reasonOf(0);
    }

    private static void moveRefused() {
        Sentences.holds(6, "Throws `IndexOutOfBoundsException` if there is no such person, no such address, or it is gone",
                () -> {
            for (int wrong : Sentences.noIndex(2)) {
                Sentences.refused(BoundaryPeopleTest::oneMovedAndOneGone, INDEX, made -> made.move(wrong, 0));
            }
            for (int wrong : Sentences.noIndex(3)) {
                Sentences.refused(BoundaryPeopleTest::oneMovedAndOneGone, INDEX, made -> made.move(0, wrong));
            }
            Sentences.refused(BoundaryPeopleTest::oneMovedAndOneGone, INDEX, made -> made.move(0, 2));
            Sentences.refused(BoundaryPeopleTest::oneMovedAndOneGone, INDEX, made -> made.move(2, 2));
            Sentences.refused(() -> Scenes.people(24), INDEX, made -> made.move(24, 0));
            Sentences.refused(() -> Scenes.people(24), INDEX, made -> made.move(23, 12));
        });
    }

    private static Mailmerge oneMovedAndOneGone() {
        Mailmerge made = Scenes.withOneGone();
        made.suppress(0, 'm');
        return made;
    }

    private static void suppress() {
        Sentences.holds(7, "- `reason`: 'm', 'd' or 'o'", () -> {
            for (char reason : new char[] {'m', 'd', 'o'}) {
                Mailmerge made = Scenes.people(24);
                made.suppress(23, reason);
                Check.same("the reason", made.reasonOf(23), reason);
                Check.same("of another person", made.reasonOf(0), '-');
            }
        });
        Sentences.holds(7, "Suppresses a person, in place of what held before.", () -> {
            for (char before : new char[] {'m', 'd', 'o'}) {
                for (char reason : new char[] {'m', 'd', 'o'}) {
                    Mailmerge made = Scenes.people(1);
                    made.suppress(0, before);
                    Check.same("the reason before", made.suppress(0, reason), before);
                    Check.same("the reason", made.reasonOf(0), reason);
                }
            }
        });
        Sentences.holds(7, "Returns the reason before the call, or '-'.", () -> {
            Check.same("before the first call", Scenes.people(24).suppress(23, 'm'), '-');
            Mailmerge made = Scenes.people(1);
            made.suppress(0, 'o');
            made.allow(0);
            Check.same("after allow", made.suppress(0, 'd'), '-');
        });
    }

    private static void suppressRefused() {
        Sentences.holds(7, "Throws `IndexOutOfBoundsException` if there is no such person", () -> {
            for (int wrong : Sentences.noIndex(2)) {
                Sentences.refused(Scenes::withOneGone, INDEX, made -> made.suppress(wrong, 'm'));
            }
            Sentences.refused(() -> Scenes.people(0), INDEX, made -> made.suppress(0, 'd'));
            Sentences.refused(() -> Scenes.people(24), INDEX, made -> made.suppress(24, 'o'));
        });
        Sentences.holds(7, "Throws `IllegalArgumentException` if there is no such reason", () -> {
            for (char wrong : NO_REASON) {
                Sentences.refused(Scenes::withOneGone, ARGUMENT, made -> made.suppress(0, wrong));
            }
        });
        Sentences.holds(Sentences.TERMS, "the exception that is listed first is thrown", () -> {
            Sentences.refused(Scenes::withOneGone, INDEX, made -> made.suppress(2, '-'));
            Sentences.refused(Scenes::withOneGone, INDEX, made -> made.suppress(-1, 'u'));
        });
    }

    private static Mailmerge suppressed(char reason) {
        Mailmerge made = Scenes.people(1);
        made.suppress(0, reason);
        return made;
    }

    private static void allow() {
        Sentences.holds(8, "Ends that a person is suppressed.", () -> {
            Mailmerge made = Scenes.people(24);
            made.suppress(23, 'm');
            made.suppress(0, 'o');
            made.allow(23);
            Check.same("the person", made.reasonOf(23), '-');
            Check.same("another person", made.reasonOf(0), 'o');
        });
        Sentences.holds(8, "Returns the reason before the call.", () -> {
            Check.same("moved", suppressed('m').allow(0), 'm');
            Check.same("wished", suppressed('o').allow(0), 'o');
        });
        Sentences.holds(8, "Throws `IndexOutOfBoundsException` if there is no such person", () -> {
            for (int wrong : Sentences.noIndex(1)) {
                Sentences.refused(() -> suppressed('m'), INDEX, made -> made.allow(wrong));
            }
            Sentences.refused(() -> Scenes.people(0), INDEX, made -> made.allow(0));
            Sentences.refused(() -> Scenes.people(24), INDEX, made -> made.allow(24));
        });
        Sentences.holds(8,
                "Throws `IllegalStateException` if the person is not suppressed, or is suppressed as dead", () -> {
            Sentences.refused(() -> Scenes.people(1), STATE, made -> made.allow(0));
            Sentences.refused(() -> suppressed('d'), STATE, made -> made.allow(0));
            Mailmerge made = suppressed('o');
            made.allow(0);
            Check.refuses("allow twice", STATE, () -> made.allow(0));
        });
    }

    private static void addressOf() {
        Sentences.holds(9, "Returns the number of the address.", () -> {
            Mailmerge made = Scenes.addresses(12);
            made.addPerson(11, 0);
            made.addPerson(0, 0);
            Check.same("the last address", made.addressOf(0), 11);
            Check.same("the first address", made.addressOf(1), 0);
        });
        Sentences.holds(9, "Throws `IndexOutOfBoundsException` if there is no such person", () -> {
            for (int wrong : Sentences.noIndex(2)) {
                Sentences.refused(Scenes::withOneGone, INDEX, made -> made.addressOf(wrong));
            }
            Sentences.refused(() -> Scenes.people(0), INDEX, made -> made.addressOf(0));
            Sentences.refused(() -> Scenes.people(24), INDEX, made -> made.addressOf(24));
        });
    }

    private static void reasonOf() {
        Sentences.holds(10, "Returns the reason, or '-'.", () -> {
            Check.same("not suppressed", Scenes.people(24).reasonOf(23), '-');
            Check.same("moved", suppressed('m').reasonOf(0), 'm');
            Check.same("dead", suppressed('d').reasonOf(0), 'd');
            Check.same("wished", suppressed('o').reasonOf(0), 'o');
        });
        Sentences.holds(10, "Throws `IndexOutOfBoundsException` if there is no such person", () -> {
            for (int wrong : Sentences.noIndex(2)) {
                Sentences.refused(Scenes::withOneGone, INDEX, made -> made.reasonOf(wrong));
            }
            Sentences.refused(() -> Scenes.people(0), INDEX, made -> made.reasonOf(0));
            Sentences.refused(() -> Scenes.people(24), INDEX, made -> made.reasonOf(24));
        });
    }

    private static void strikes() {
        Sentences.holds(11, "Returns the number of strikes.", () -> {
            Check.same("none", Scenes.struck(24, 0).strikes(0), 0);
            Check.same("one", Scenes.struck(24, 1).strikes(0), 1);
            Check.same("24", Scenes.struck(24, 24).strikes(0), 24);
        });
        Sentences.holds(11, "Throws `IndexOutOfBoundsException` if there is no such address, or it is gone", () -> {
            for (int wrong : Sentences.noIndex(3)) {
                Sentences.refused(Scenes::withOneGone, INDEX, made -> made.strikes(wrong));
            }
            Sentences.refused(Scenes::withOneGone, INDEX, made -> made.strikes(2));
            Sentences.refused(() -> Scenes.addresses(0), INDEX, made -> made.strikes(0));
            Sentences.refused(() -> Scenes.addresses(12), INDEX, made -> made.strikes(12));
        });
    }
}
