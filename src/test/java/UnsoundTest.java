import java.lang.reflect.Constructor;
import java.lang.reflect.Field;
import java.util.List;

/**
 * No row of calls makes a factory unsound, so these tests disturb what it holds, by its fields: isSound must see it.
 * A field that gets another name needs it here too.
 */
public final class UnsoundTest {
    public static void main(String[] args) {
        stockThatDoesNotAddUp();
        previewsThatDisagree();
        previewsThatDisagreeInOnePlace();
        previewsThatDisagreeNotByHouseholds();
        Check.end("UnsoundTest");
    }

    private static void stockThatDoesNotAddUp() {
        Sentences.holds(33, "what was bought of paper and envelopes is what is there and what all letters took", () -> {
            for (String kind : new String[] {"sheets", "smallEnvelopes", "largeEnvelopes"}) {
                for (int change : new int[] {-1, 1}) {
                    Mailmerge made = Scenes.ran(2, 2);
                    Check.same("isSound", made.isSound(), true);
                    Object there = get(made, "there");
                    set(there, kind, (Integer) get(there, kind) + change);
                    Check.same("isSound with " + kind + " changed by " + change, made.isSound(), false);
                    set(there, kind, (Integer) get(there, kind) - change);
                    Check.same("isSound with what is due", made.isSound(), true);
                }
            }
        });
        Sentences.holds(33, "and what all letters took", () -> {
            for (int run : new int[] {0, 9}) {
                Mailmerge made = Scenes.ran(1, 10);
                Object letter = ((List<?>) get(((List<?>) get(made, "runs")).get(run), "posted")).remove(0);
                Check.same("the letter that is taken away", get(letter, "number"), 0);
                Check.same("isSound without a letter of run " + run, made.isSound(), false);
            }
        });
    }

    private static void previewsThatDisagree() {
        Sentences.holds(33, "both ways of the preview agree", () -> {
            Mailmerge made = Scenes.stocked(2);
            Check.same("isSound", made.isSound(), true);
            set(strangeHome(made, 1), "struck", 2);
            Check.same("a way of the preview", made.preview(0, false, 1), 'l');
            Check.same("the other way", made.previewAlone(0, false, 1), 'b');
            Check.same("isSound", made.isSound(), false);
        });
    }

    /** The previews differ at a strange home in runs by households alone, for who would get a letter. */
    private static void previewsThatDisagreeInOnePlace() {
        Sentences.holds(33, "for each template and each person, by households and not", () -> {
            for (int person : new int[] {0, 23}) {
                for (int template = 0; template < 4; template++) {
                    Mailmerge made = Scenes.people(24);
                    for (int i = 0; i < 4; i++) {
                        made.addTemplate();
                    }
                    Scenes.buyPlenty(made);
                    strangeHome(made, person);
                    Check.same("isSound without parts", made.isSound(), true);
                    made.addPart(template, 1, 0, 0);
                    Check.same("isSound for person " + person + ", template " + template, made.isSound(), false);
                }
            }
        });
    }

    /**
     * A person who stands in the row twice, behind a housemate: the stock suffices for the first time alone, so going
     * through all people ends at 'p', and by households both times are 'h' for either way.
     */
    private static void previewsThatDisagreeNotByHouseholds() {
        Sentences.holds(33, "for each template and each person, by households and not", () -> {
            Mailmerge made = Scenes.people(2);
            made.addTemplate();
            Scenes.addParts(made, 0, 10);
            made.buyPaper(2);
            made.buyEnvelopes(false, 2);
            Check.same("isSound", made.isSound(), true);
            standTwice(made, 1);
            Check.same("by households", Scenes.previews(made, 0, true, 3), "lhh");
            Check.same("by households, alone", Scenes.previewsAlone(made, 0, true, 3), "lhh");
            Check.same("not by households", Scenes.previews(made, 0, false, 3), "lpp");
            Check.same("not by households, alone", Scenes.previewsAlone(made, 0, false, 3), "llp");
            Check.same("isSound", made.isSound(), false);
        });
    }

    @SuppressWarnings("unchecked")
    private static void standTwice(Mailmerge made, int person) {
        List<Object> people = (List<Object>) get(made, "people");
        people.add(people.get(person));
    }

    /** Gives a person an address that the factory doesn't know, so that no preview begins it anew. */
    private static Object strangeHome(Mailmerge made, int person) {
        Object owner = ((List<?>) get(made, "people")).get(person);
        try {
            Constructor<?> maker = get(owner, "home").getClass().getDeclaredConstructor(int.class, int.class);
            maker.setAccessible(true);
            set(owner, "home", maker.newInstance(0, 0));
            return get(owner, "home");
        } catch (ReflectiveOperationException failure) {
            throw new IllegalStateException("the class is built in another way", failure);
        }
    }

    private static Field fieldOf(Object owner, String name) throws ReflectiveOperationException {
        Field field = owner.getClass().getDeclaredField(name);
        field.setAccessible(true);
        return field;
    }

    private static Object get(Object owner, String name) {
        try {
            return fieldOf(owner, name).get(owner);
        } catch (ReflectiveOperationException failure) {
            throw new IllegalStateException("the class is built in another way", failure);
        }
    }

    private static void set(Object owner, String name, Object value) {
        try {
            fieldOf(owner, name).set(owner, value);
        } catch (ReflectiveOperationException failure) {
            throw new IllegalStateException("the class is built in another way", failure);
        }
    }
}
