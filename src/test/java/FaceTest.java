import java.lang.reflect.Constructor;
import java.lang.reflect.Field;
import java.lang.reflect.Method;
import java.lang.reflect.Modifier;
import java.util.HashSet;
import java.util.Set;
import java.util.StringJoiner;
import java.util.TreeSet;

/** The document's public face, and nothing beside it. */
public final class FaceTest {
    private static final String INDEX = " IndexOutOfBoundsException";
    private static final String ARGUMENT = " IllegalArgumentException";
    private static final String STATE = " IllegalStateException";
    private static final Set<String> FACE = Set.of(
            "int addPanel(int,int)" + ARGUMENT + STATE,
            "int addTrunk(int,int,int,int)" + INDEX + ARGUMENT + STATE,
            "boolean setBroken(int,int,boolean)" + INDEX,
            "int plug(int,int,int)" + INDEX + ARGUMENT + STATE,
            "int pull(int)" + INDEX + STATE,
            "int addMove(int,int)" + INDEX + ARGUMENT + STATE,
            "int dropPlan()",
            "int carryOut()" + STATE,
            "int ports()",
            "int trunks()",
            "int cables()",
            "int panelOf(int)" + INDEX,
            "int byCable(int)" + INDEX,
            "int byStrand(int)" + INDEX,
            "int colour(int)" + INDEX,
            "int end(int,boolean)" + INDEX,
            "int hops(int,boolean)" + INDEX,
            "int hopTo(int,boolean,int)" + INDEX,
            "int lengthOf(int,boolean)" + INDEX,
            "boolean isRing(int)" + INDEX,
            "boolean areJoined(int,int)" + INDEX,
            "boolean areJoinedBySearch(int,int)" + INDEX,
            "int lines()",
            "int freePort(int)" + INDEX,
            "int freeStrand(int,int)" + INDEX,
            "int used(int)" + INDEX,
            "boolean canCarryOut()",
            "int cableLength()");

    private static final Check CHECK = new Check();

    public static void main(String[] args) {
        CHECK.due("the class", Modifier.toString(CableBook.class.getModifiers()), "public final");
        CHECK.due("what it extends", CableBook.class.getSuperclass(), Object.class);
        CHECK.due("what it implements", CableBook.class.getInterfaces().length, 0);
        constructors();
        methods();
        for (Field field : CableBook.class.getDeclaredFields()) {
            CHECK.due("field " + field.getName() + " is private", Modifier.isPrivate(field.getModifiers()), true);
        }
        CHECK.finish();
    }

    private static void constructors() {
        Constructor<?>[] all = CableBook.class.getDeclaredConstructors();
        CHECK.due("constructors", all.length, 1);
        CHECK.due("its parameters", all[0].getParameterCount(), 0);
        CHECK.due("it is public", Modifier.toString(all[0].getModifiers()), "public");
    }

    private static void methods() {
        Set<String> open = new TreeSet<>();
        Set<String> openNames = new HashSet<>();
        Set<String> privateNames = new HashSet<>();
        for (Method method : CableBook.class.getDeclaredMethods()) {
            if (Modifier.isPrivate(method.getModifiers())) {
                privateNames.add(method.getName());
            } else {
                open.add(told(method));
                openNames.add(method.getName());
                CHECK.due(method.getName(), Modifier.toString(method.getModifiers()), "public");
            }
        }
        CHECK.due("the face", open, new TreeSet<>(FACE));
        privateNames.retainAll(openNames);
        CHECK.due("private methods with a public name", privateNames, Set.of());
    }

    private static String told(Method method) {
        StringJoiner parameters = new StringJoiner(",", "(", ")");
        for (Class<?> type : method.getParameterTypes()) {
            parameters.add(type.getSimpleName());
        }
        StringBuilder text = new StringBuilder();
        text.append(method.getReturnType().getSimpleName()).append(' ').append(method.getName()).append(parameters);
        for (Class<?> type : method.getExceptionTypes()) {
            text.append(' ').append(type.getSimpleName());
        }
        return text.toString();
    }
}
