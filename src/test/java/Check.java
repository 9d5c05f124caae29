/** What the tests share: they tell each answer that is not the one due, and end with exit code 1 if there was one. */
final class Check {
    static final Class<IndexOutOfBoundsException> INDEX = IndexOutOfBoundsException.class;
    static final Class<IllegalArgumentException> ARGUMENT = IllegalArgumentException.class;
    static final Class<IllegalStateException> STATE = IllegalStateException.class;

    private static String heading = "";
    private static int count = 0;
    private static int wrong = 0;

    private Check() {
    }

    /** The answers that follow are about this sentence of a promise; SentencesTest looks for it in the tests' text. */
    static void sentence(int promise, String text) {
        heading = "promise " + promise + ", " + text + ": ";
    }

    /** The same for a sentence of the document's terms. */
    static void term(String text) {
        heading = "terms, " + text + ": ";
    }

    static void due(String what, long got, long want) {
        say(got == want, what + " answered " + got + ", due is " + want);
    }

    static void due(String what, boolean got, boolean want) {
        say(got == want, what + " answered " + got + ", due is " + want);
    }

    static void due(String what, String got, String want) {
        say(want.equals(got), what + " is " + got + ", due is " + want);
    }

    /** The very class is due: a class below it, as the machine's own are, is wrong. */
    static void dueThrow(String what, Class<? extends RuntimeException> want, Runnable call) {
        due(what + ": what it throws", thrownBy(call), want.getName());
    }

    static void dueNoThrow(String what, Runnable call) {
        due(what + ": what it throws", thrownBy(call), "nothing");
    }

    static String thrownBy(Runnable call) {
        try {
            call.run();
            return "nothing";
        } catch (RuntimeException e) {
            return e.getClass().getName();
        }
    }

    private static void say(boolean right, String text) {
        count++;
        if (!right) {
            wrong++;
            System.out.println("  " + heading + text);
        }
    }

    static void end() {
        System.out.println("  " + count + " answers looked at, " + wrong + " wrong");
        if (wrong != 0 || count == 0) {
            System.exit(1);
        }
    }
}
