import java.lang.reflect.Constructor;
import java.lang.reflect.Field;
import java.lang.reflect.Method;
import java.lang.reflect.Modifier;
import java.util.Arrays;
import java.util.Set;
import java.util.TreeSet;

/** The public face: the document's constants, constructor and calls, and no others. */
public final class FaceTest {
    private static final Check CHECK = new Check("FaceTest");
    private static final String[] CALLS = {"int letters(long)", "int blank()", "int fault(int)",
        "int house()", "int law()", "int lawTold(int,int)", "int asLaw(int,int)",
        "int cell(int,int)", "int part(int,int,int,int)", "int against(int,int,int,int,int)",
        "int event(int,int,int,int,int)", "int first(int)", "int map(int,int,int,int)",
        "int thing(int,int,int)", "int asThing(int,int)", "int about(int,int)",
        "int move(int,int,int)", "int habit(int,int)", "int kept()", "int moves(int)",
        "int steps(int,int)", "int cheapest(int,int,int)", "int whose(int,int)",
        "int duty(int,int,int,int,int)", "int drawn(int)", "int judgment(int,int)", "int fits()",
        "int image()", "int restore()", "int count(int)", "long digest()"};
    private static final String[] CONSTANTS = {"NONE", "UNKNOWN", "OUTSIDE", "STATE", "FULL"};

    public static void main(String[] args) {
        classIsAsTold();
        calls();
        constants();
        CHECK.end();
    }

    private static void holds(String what, boolean does) {
        CHECK.due(what, does ? 1 : 0, 1);
    }

    private static void classIsAsTold() {
        int modifiers = BorderThroughBed.class.getModifiers();
        holds("the class is public and final",
                Modifier.isPublic(modifiers) && Modifier.isFinal(modifiers));
        Constructor<?>[] constructors = BorderThroughBed.class.getDeclaredConstructors();
        holds("one constructor", constructors.length == 1);
        holds("it is public and takes nothing", Modifier.isPublic(constructors[0].getModifiers())
                && constructors[0].getParameterCount() == 0
                && constructors[0].getExceptionTypes().length == 0);
    }

    private static void calls() {
        Set<String> due = new TreeSet<>(Arrays.asList(CALLS));
        Set<String> open = new TreeSet<>();
        Set<String> names = new TreeSet<>();
        for (Method method : BorderThroughBed.class.getDeclaredMethods()) {
            if (!Modifier.isPrivate(method.getModifiers())) {
                open.add(told(method));
                names.add(method.getName());
                holds("public, of an object, without exceptions: " + method,
                        Modifier.toString(method.getModifiers()).equals("public")
                                && method.getExceptionTypes().length == 0);
            }
        }
        holds("the calls are " + due + ", there are " + open, open.equals(due));
        for (Method method : BorderThroughBed.class.getDeclaredMethods()) {
            holds("no name of the face: " + method, !Modifier.isPrivate(method.getModifiers())
                    || !names.contains(method.getName()));
        }
    }

    private static String told(Method method) {
        StringBuilder types = new StringBuilder();
        for (Class<?> type : method.getParameterTypes()) {
            types.append(types.length() == 0 ? "" : ",").append(type.getName());
        }
        return method.getReturnType().getName() + " " + method.getName() + "(" + types + ")";
    }

    private static void constants() {
        Set<String> open = new TreeSet<>();
        for (Field field : BorderThroughBed.class.getDeclaredFields()) {
            if (!Modifier.isPrivate(field.getModifiers())) {
                open.add(field.getName());
                holds("a public constant of int: " + field, field.getType() == int.class
                        && Modifier.toString(field.getModifiers()).equals("public static final"));
            }
        }
        holds("the constants are " + open, open.equals(new TreeSet<>(Arrays.asList(CONSTANTS))));
        CHECK.due("NONE", BorderThroughBed.NONE, -1);
        CHECK.due("UNKNOWN", BorderThroughBed.UNKNOWN, -101);
        CHECK.due("OUTSIDE", BorderThroughBed.OUTSIDE, -102);
        CHECK.due("STATE", BorderThroughBed.STATE, -103);
        CHECK.due("FULL", BorderThroughBed.FULL, -104);
    }
}
