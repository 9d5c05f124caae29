import java.lang.reflect.InvocationTargetException;
import java.lang.reflect.Method;
import java.util.Arrays;

/**
 * Runs of 512 calls, right and wrong ones, against the oracle; after a call that throws the later
 * answers show that it changed nothing. The draws are counted out, so that each run is the same always.
 */
public final class OracleTest {
    private static final int RUNS = 3000;
    private static final int CALLS = 512;

    /** The calls with what their arguments are; the first ones build, the others ask. */
    private static final String[] FACE = {
        "person group", "person group", "thing marks size", "thing marks size", "heir person person",
        "station thing person kind land year", "station thing person kind land year", "settle thing station is",
        "rebut thing station is", "now later", "persecution group land year year", "faith land years",
        "mark thing mark is", "die person", "isPersecuted person land year", "heirOf person", "likeness thing thing",
        "likest thing", "stationAt thing station", "isLoss thing station", "holder thing", "owner thing",
        "ownerAnew thing", "asks person",
    };
    private static final int BUILDING = 12;
    private static final int[] ODD = {-1, Integer.MIN_VALUE, Integer.MAX_VALUE, 12, 16, 61, 1001, 1899, 2101, 65536};

    private final Restitutory asked = new Restitutory();
    private final Oracle oracle = new Oracle();
    private final int run;
    private final int oddness;
    private long seed;

    private OracleTest(int run) {
        this.run = run;
        this.oddness = run % 3 == 0 ? 12 : 80;
        this.seed = 7919L * run + 1;
    }

    public static void main(String[] args) throws ReflectiveOperationException {
        Check.term("An object is used for at most 512 calls after it has been made; what later calls answer is free.");
        for (int run = 0; run < RUNS; run++) {
            new OracleTest(run).calls();
        }
        Check.end();
    }

    private void calls() throws ReflectiveOperationException {
        for (int i = 0; i < CALLS; i++) {
            String[] words = FACE[draw(i < 60 || draw(3) == 0 ? BUILDING : FACE.length)].split(" ");
            // Few die, as titles and heirs tell more among the living.
            if (words[0].equals("die") && draw(4) != 0) {
                words = "ownerAnew thing".split(" ");
            }
            Object[] args = new Object[words.length - 1];
            for (int j = 0; j < args.length; j++) {
                int value = value(words[j + 1]);
                args[j] = words[j + 1].equals("is") ? (Object) (value == 1) : (Object) value;
            }
            String call = "run " + run + ", call " + i + ", " + words[0] + Arrays.toString(args);
            Check.due(call, answer(asked, words[0], args), answer(oracle, words[0], args));
        }
    }

    private int draw(int below) {
        seed = seed * 6364136223846793005L + 1442695040888963407L;
        return (int) ((seed >>> 33) % below);
    }

    private int value(String word) {
        if (word.equals("is")) {
            return draw(2);
        }
        return draw(oddness) == 0 ? ODD[draw(ODD.length)] : likelyValue(word);
    }

    /** Mostly near one another, so that the years, lands and people meet. */
    private int likelyValue(String word) {
        switch (word) {
            case "group": return draw(4);
            case "person": return draw(run % 2 == 0 ? 7 : 12);
            case "land": return draw(run % 4 == 0 ? 5 : 2);
            case "year": return 1900 + draw(draw(4) == 0 ? 201 : 12);
            case "later": return 1900 + draw(draw(30) == 0 ? 201 : 30);
            case "years": return draw(draw(4) == 0 ? 61 : 6);
            case "thing": return draw(draw(4) == 0 ? 10 : 3);
            case "marks": return draw(65536);
            case "size": return draw(1001);
            case "mark": return draw(16);
            case "kind": return draw(2) == 0 ? draw(2) : draw(6);
            case "station": return draw(9);
            default: throw new UnsupportedOperationException(word);
        }
    }

    private static String answer(Object object, String name, Object[] args) throws ReflectiveOperationException {
        Class<?>[] types = new Class<?>[args.length];
        for (int i = 0; i < args.length; i++) {
            types[i] = args[i] instanceof Boolean ? boolean.class : int.class;
        }
        Method method = object.getClass().getDeclaredMethod(name, types);
        try {
            return String.valueOf(method.invoke(object, args));
        } catch (InvocationTargetException e) {
            return e.getCause().getClass().getName();
        }
    }
}
