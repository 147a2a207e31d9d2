import java.lang.reflect.InvocationTargetException;
import java.lang.reflect.Method;
import java.util.ArrayList;
import java.util.HashMap;
import java.util.List;
import java.util.Map;
import java.util.Random;

/** Long runs of calls, always the same ones, on the class and on the model side by side. */
public final class ModelTest {
    private static final int OBJECTS = 3000;
    private static final int CALLS = 512;
    private static final int BUILDING_CALLS = 90;
    /** How often a call is drawn while an object is built up. */
    private static final String[] BUILDING = {
        "addAddress 10", "addPerson 18", "addTemplate 3", "addPart 20", "buyPaper 5", "buyEnvelopes 8",
        "setFlags 1", "suppress 1", "pagesFor 2", "paper 1", "run 1", "preview 1", "previewAlone 1",
    };
    /** How often a call is drawn afterwards. */
    private static final String[] GOING_ON = {
        "addAddress 1", "join 1", "addPerson 1", "setFlags 2", "move 2", "suppress 1", "allow 3", "addressOf 2",
        "reasonOf 2", "strikes 4", "addTemplate 1", "addPart 1", "pagesFor 2", "buyPaper 2", "buyEnvelopes 3",
        "paper 1", "envelopes 2", "run 4", "preview 4", "previewAlone 4", "outcome 6", "comesBack 40", "setBound 2",
        "letters 2", "postedAt 5", "onRoute 3", "postage 5", "costOf 2", "proofAt 4", "returnShare 1",
        "meanPages 1", "isSound 1",
    };
    private static final int[] WILD = {
        Integer.MIN_VALUE, -101, -1, 0, 1, 7, 8, 9, 10, 12, 24, 25, 40, 41, 99, 100, 500, 501, 5001, 65536,
        Integer.MAX_VALUE,
    };

    private final Random random;
    private final Mailmerge made = new Mailmerge();
    private final Model model = new Model();
    private final boolean isSparing;
    private final int addressesUsed;
    private final Map<String, Integer> answered = new HashMap<>();
    private final List<String> told = new ArrayList<>();

    private ModelTest(long seed) {
        random = new Random(seed);
        isSparing = random.nextInt(3) == 0;
        addressesUsed = random.nextBoolean() ? 12 : 4;
    }

    public static void main(String[] args) throws ReflectiveOperationException {
        List<Method[]> building = lotsOf(BUILDING);
        List<Method[]> goingOn = lotsOf(GOING_ON);
        int wrongObjects = 0;
        for (int seed = 0; seed < OBJECTS && wrongObjects < 3; seed++) {
            if (!new ModelTest(seed).agrees(building, goingOn)) {
                wrongObjects++;
            }
        }
        Check.end("ModelTest");
    }

    private static List<Method[]> lotsOf(String[] drawn) throws ReflectiveOperationException {
        List<Method[]> lots = new ArrayList<>();
        for (String line : drawn) {
            String[] words = line.split(" ");
            for (int i = 0; i < Integer.parseInt(words[1]); i++) {
                lots.add(bothMethods(words[0]));
            }
        }
        return lots;
    }

    private static Method[] bothMethods(String name) throws ReflectiveOperationException {
        for (Method method : Mailmerge.class.getMethods()) {
            if (method.getName().equals(name)) {
                Method twin = Model.class.getDeclaredMethod(name, method.getParameterTypes());
                return new Method[] {method, twin};
            }
        }
        throw new NoSuchMethodException(name);
    }

    private boolean agrees(List<Method[]> building, List<Method[]> goingOn) throws ReflectiveOperationException {
        for (int i = 0; i < CALLS; i++) {
            List<Method[]> lots = i < BUILDING_CALLS ? building : goingOn;
            Method[] both = lots.get(random.nextInt(lots.size()));
            String name = both[0].getName();
            Object[] values = valuesFor(both[0]);
            Object answer = answerOf(both[0], made, values);
            Object due = answerOf(both[1], model, values);
            told.add(name + List.of(values) + " -> " + answer);
            Check.same(name, answer, due);
            if (!answer.equals(due)) {
                System.out.println(String.join("\n", told));
                return false;
            }
            if (!(answer instanceof String)) {
                answered.merge(name, 1, Integer::sum);
            }
        }
        return true;
    }

    /** The answer, or as a text the name of the exception. */
    private static Object answerOf(Method method, Object target, Object[] values) throws ReflectiveOperationException {
        try {
            return method.invoke(target, values);
        } catch (InvocationTargetException wrapped) {
            Throwable thrown = wrapped.getCause();
            boolean isFromTheMachine = target instanceof Mailmerge && !Check.isThrownByTheClass(thrown);
            return (isFromTheMachine ? "the library's " : "") + thrown.getClass().getName();
        }
    }

    private Object[] valuesFor(Method method) {
        Class<?>[] kinds = method.getParameterTypes();
        Object[] values = new Object[kinds.length];
        for (int i = 0; i < kinds.length; i++) {
            if (kinds[i] == boolean.class) {
                values[i] = random.nextBoolean();
            } else if (kinds[i] == char.class) {
                values[i] = random.nextInt(30) == 0 ? (char) random.nextInt(65536) : drawReason(method.getName());
            } else if (random.nextInt(60) == 0) {
                values[i] = WILD[random.nextInt(WILD.length)];
            } else {
                values[i] = drawNumber(method.getName(), i);
            }
        }
        return values;
    }

    private char drawReason(String name) {
        String reasons = name.equals("comesBack") ? "uuuuuuuuumd" : "mmoood";
        return reasons.charAt(random.nextInt(reasons.length()));
    }

    private int drawNumber(String name, int place) {
        return switch (name + place) {
            case "addAddress0" -> random.nextInt(random.nextBoolean() ? 100 : 30);
            case "setBound0" -> 1 + random.nextInt(random.nextBoolean() ? 5 : 24);
            case "addPart1" -> 1 + random.nextInt(40);
            case "addPart2", "addPart3" -> random.nextInt(random.nextBoolean() ? 2 : 8);
            case "addPerson1", "setFlags1", "pagesFor1" -> random.nextInt(8);
            case "buyPaper0", "buyEnvelopes1" -> 1 + random.nextInt(isSparing ? 12 : 500);
            case "postedAt1" -> random.nextInt(25);
            case "proofAt1" -> random.nextInt(5);
            case "onRoute1" -> random.nextInt(11);
            case "join0", "join1", "addPerson0", "move1", "strikes0" ->
                random.nextInt(Math.min(addressesUsed, 1 + count("addAddress")));
            case "addPart0", "pagesFor0", "run0", "preview0", "previewAlone0" -> among("addTemplate");
            case "outcome0", "comesBack0", "letters0", "postedAt0", "onRoute0", "postage0", "costOf0", "proofAt0" ->
                random.nextBoolean() && count("run") > 0 ? count("run") - 1 : among("run");
            default -> among("addPerson");
        };
    }

    private int count(String name) {
        return answered.getOrDefault(name, 0);
    }

    /** A number that is there, or now and then the next one, that is not. */
    private int among(String name) {
        return random.nextInt(Math.max(1, count(name) + (random.nextInt(10) == 0 ? 1 : 0)));
    }
}
