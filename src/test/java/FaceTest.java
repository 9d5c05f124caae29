import java.lang.reflect.Constructor;
import java.lang.reflect.Field;
import java.lang.reflect.Method;
import java.lang.reflect.Modifier;
import java.util.ArrayList;
import java.util.Arrays;
import java.util.List;
import java.util.TreeSet;

/** The public face, as the document writes it, and nothing else that is not private. */
public final class FaceTest {
    private static final String IOOBE = "IndexOutOfBoundsException";
    private static final String IAE = "IllegalArgumentException";
    private static final String ISE = "IllegalStateException";

    private static final String[] METHODS = {
        "int person(int) " + IOOBE + " " + ISE,
        "void die(int) " + IOOBE + " " + ISE,
        "int heir(int,int) " + IOOBE + " " + IAE + " " + ISE,
        "int persecution(int,int,int,int) " + IOOBE + " " + IAE + " " + ISE,
        "int faith(int,int) " + IOOBE + " " + IAE,
        "int now(int) " + IAE,
        "int thing(int,int) " + IAE + " " + ISE,
        "boolean mark(int,int,boolean) " + IOOBE + " " + IAE,
        "int station(int,int,int,int,int) " + IOOBE + " " + IAE + " " + ISE,
        "boolean rebut(int,int,boolean) " + IOOBE + " " + IAE,
        "boolean settle(int,int,boolean) " + IOOBE,
        "boolean isPersecuted(int,int,int) " + IOOBE + " " + IAE,
        "int heirOf(int) " + IOOBE,
        "int likeness(int,int) " + IOOBE,
        "int likest(int) " + IOOBE,
        "int stationAt(int,int) " + IOOBE,
        "boolean isLoss(int,int) " + IOOBE,
        "int holder(int) " + IOOBE,
        "int owner(int) " + IOOBE,
        "int ownerAnew(int) " + IOOBE,
        "int asks(int) " + IOOBE,
    };

    public static void main(String[] args) {
        Class<?> face = Restitutory.class;
        Check.due("the class is public and final", face.getModifiers(), Modifier.PUBLIC | Modifier.FINAL);
        constructors(face);
        methods(face);
        privateNames(face);
        constants(face);
        Check.end();
    }

    private static void constants(Class<?> face) {
        List<String> found = new ArrayList<>();
        for (Field field : face.getDeclaredFields()) {
            int modifiers = field.getModifiers();
            if (!Modifier.isPrivate(modifiers)) {
                found.add(Modifier.toString(modifiers) + " " + field.getType().getName() + " " + field.getName());
            }
        }
        List<String> want = new ArrayList<>();
        for (String name : "NONE BOUGHT GIVEN INHERITED SEIZED FORCED LEFT".split(" ")) {
            want.add("public static final int " + name);
        }
        Check.due("what is not private", new TreeSet<>(found).toString(), new TreeSet<>(want).toString());
        Check.term("The constants: `NONE = -1`: There is none.");
        Check.due("NONE", Restitutory.NONE, -1);
        Check.term("`BOUGHT = 0, GIVEN = 1, INHERITED = 2, SEIZED = 3, FORCED = 4, LEFT = 5`: Kinds of stations.");
        int[] kinds = {Restitutory.BOUGHT, Restitutory.GIVEN, Restitutory.INHERITED, Restitutory.SEIZED,
            Restitutory.FORCED, Restitutory.LEFT};
        Check.due("the kinds", Arrays.toString(kinds), "[0, 1, 2, 3, 4, 5]");
    }

    private static void constructors(Class<?> face) {
        Constructor<?>[] found = face.getDeclaredConstructors();
        Check.due("constructors", found.length, 1);
        Check.due("its modifiers", found[0].getModifiers(), Modifier.PUBLIC);
        Check.due("its arguments", found[0].getParameterCount(), 0);
    }

    private static void methods(Class<?> face) {
        List<String> found = new ArrayList<>();
        for (Method method : face.getDeclaredMethods()) {
            if (!Modifier.isPrivate(method.getModifiers())) {
                Check.due(method.getName() + " is public alone", method.getModifiers(), Modifier.PUBLIC);
                found.add(told(method));
            }
        }
        Check.due("the methods", String.join("\n", new TreeSet<>(found)),
            String.join("\n", new TreeSet<>(Arrays.asList(METHODS))));
    }

    private static String told(Method method) {
        StringBuilder text = new StringBuilder(method.getReturnType().getName() + " " + method.getName() + "(");
        for (Class<?> type : method.getParameterTypes()) {
            text.append(text.charAt(text.length() - 1) == '(' ? "" : ",").append(type.getName());
        }
        text.append(')');
        for (Class<?> type : method.getExceptionTypes()) {
            text.append(' ').append(type.getSimpleName());
        }
        return text.toString();
    }

    private static void privateNames(Class<?> face) {
        TreeSet<String> names = new TreeSet<>();
        for (Method method : face.getDeclaredMethods()) {
            if (Modifier.isPublic(method.getModifiers())) {
                names.add(method.getName());
            }
        }
        List<Class<?>> all = new ArrayList<>(Arrays.asList(face.getDeclaredClasses()));
        all.add(face);
        for (Class<?> type : all) {
            for (Method method : type.getDeclaredMethods()) {
                boolean shared = Modifier.isPrivate(method.getModifiers()) && names.contains(method.getName());
                Check.due(type.getName() + "." + method.getName() + " bears a public name", shared, false);
            }
        }
    }
}
