import java.lang.reflect.Constructor;
import java.lang.reflect.Field;
import java.lang.reflect.Method;
import java.lang.reflect.Modifier;
import java.util.Arrays;
import java.util.List;
import java.util.Set;
import java.util.TreeSet;

/** The public face: just what the document tells, and nothing else that others can see. */
public final class FaceTest {
    private static final Check CHECK = new Check();
    private static final String INDEX = " IndexOutOfBoundsException";
    private static final String ARGUMENT = " IllegalArgumentException";
    private static final String BOTH = INDEX + ARGUMENT;

    /** Return, name, parameters, then what it throws. */
    private static final List<String> METHODS = List.of(
            "int put(int,int,int,int)" + BOTH, "int make(int,int)" + BOTH, "int stretch(int,int)" + BOTH,
            "int addSteps(int,int,int)" + INDEX, "int takeStep(int,int,int)" + INDEX, "int sortSteps(boolean)",
            "int across(int)" + INDEX, "int up(int)" + INDEX, "int signs(int)" + INDEX, "int upper(int)" + INDEX,
            "int lower(int)" + INDEX, "int grade(int,int)" + BOTH, "int order(int,int,int)" + BOTH,
            "boolean like(int,int)" + INDEX, "boolean same(int,int,int)" + BOTH, "int side(int,int)" + INDEX,
            "int eighth(int)" + INDEX, "int rule(int,int)" + BOTH, "int find(int,boolean)" + INDEX,
            "int addPlace(int,int)" + ARGUMENT, "int removePlace(int)" + INDEX, "int movePlace(int,int,int)" + BOTH,
            "int centre(int,int)" + ARGUMENT, "int turnPlaces()", "int mirrorPlaces()", "int places()",
            "int place(int,boolean)" + INDEX, "int centreAt(boolean)", "int bearing(int,int,int)" + BOTH,
            "int bearingOrder(int,int,int)" + INDEX, "int left(int,int,int)" + INDEX, "int roundCount()",
            "String roundText()", "boolean isStar()", "int starArea()", "int hullCount()", "String hullText()",
            "int hullArea()", "int rounds()", "int house(int)" + ARGUMENT, "int knock()", "boolean isSound()",
            "long digest()");

    public static void main(String[] args) {
        Set<String> seen = new TreeSet<>();
        Set<String> hidden = new TreeSet<>();
        for (Method method : Raywalk.class.getDeclaredMethods()) {
            if (Modifier.isPrivate(method.getModifiers())) {
                hidden.add(method.getName());
            } else {
                seen.add(told(method));
            }
        }
        CHECK.due("methods", seen, new TreeSet<>(METHODS));
        for (Method method : Raywalk.class.getMethods()) {
            CHECK.due("a private method named " + method.getName(), hidden.contains(method.getName()), false);
        }
        CHECK.due("modifiers", Raywalk.class.getModifiers(), Modifier.PUBLIC | Modifier.FINAL);
        Constructor<?>[] constructors = Raywalk.class.getDeclaredConstructors();
        CHECK.due("constructors", Arrays.toString(constructors), "[public Raywalk()]");
        for (Field field : Raywalk.class.getDeclaredFields()) {
            CHECK.due("private " + field.getName(), Modifier.isPrivate(field.getModifiers()), true);
        }
        CHECK.end();
    }

    private static String told(Method method) {
        StringBuilder told = new StringBuilder(method.getReturnType().getSimpleName());
        told.append(' ').append(method.getName()).append('(');
        String between = "";
        for (Class<?> type : method.getParameterTypes()) {
            told.append(between).append(type.getSimpleName());
            between = ",";
        }
        told.append(')');
        for (Class<?> thrown : method.getExceptionTypes()) {
            told.append(' ').append(thrown.getSimpleName());
        }
        return told.toString();
    }
}
