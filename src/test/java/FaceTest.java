import java.lang.reflect.Constructor;
import java.lang.reflect.Executable;
import java.lang.reflect.Field;
import java.lang.reflect.Method;
import java.lang.reflect.Modifier;
import java.util.ArrayList;
import java.util.List;
import java.util.Set;
import java.util.TreeSet;

/** The class has the document's face, and nothing but private members beside it. */
public final class FaceTest {
    private static final String INDEX = "java.lang.IndexOutOfBoundsException";
    private static final String ARGUMENT = "java.lang.IllegalArgumentException";
    private static final String STATE = "java.lang.IllegalStateException";

    private static final Set<String> FACE = Set.of(
            "public static final int Board.NONE",
            "public Board()",
            "public void Board.clear()",
            "public void Board.begin()",
            "public void Board.put(int,int) throws " + INDEX + "," + ARGUMENT + "," + STATE,
            "public void Board.state(int,int,int) throws " + ARGUMENT,
            "public void Board.clocks(int,int) throws " + ARGUMENT,
            "public boolean Board.fits(int)",
            "public int Board.make(int) throws " + ARGUMENT + "," + STATE,
            "public int Board.unmake() throws " + STATE,
            "public int Board.at(int) throws " + INDEX,
            "public long Board.where(int)",
            "public long Board.attackers(int,int) throws " + INDEX + "," + ARGUMENT,
            "public boolean Board.check(int)",
            "public long Board.key()",
            "public int Board.move(int)",
            "public int Board.look(int)");

    public static void main(String[] args) {
        Due.same("modifiers of Board", Board.class.getModifiers(), Modifier.PUBLIC | Modifier.FINAL);
        Due.same("NONE", Board.NONE, -1);

        Set<String> visible = visibleMembers();
        for (String member : FACE) {
            Due.yes("the class has: " + member, visible.contains(member));
        }
        for (String member : visible) {
            Due.yes("the document has: " + member, FACE.contains(member));
        }
        noPrivateNamesake();
        noChangingStatic();
        Due.end();
    }

    private static Set<String> visibleMembers() {
        Set<String> visible = new TreeSet<>();
        List<Executable> calls = new ArrayList<>();
        calls.addAll(List.of(Board.class.getDeclaredConstructors()));
        calls.addAll(List.of(Board.class.getDeclaredMethods()));
        for (Executable call : calls) {
            if (!Modifier.isPrivate(call.getModifiers())) {
                visible.add(call instanceof Constructor<?> made ? made.toString() : ((Method) call).toString());
            }
        }
        for (Field field : Board.class.getDeclaredFields()) {
            if (!Modifier.isPrivate(field.getModifiers())) {
                visible.add(field.toString());
            }
        }
        return visible;
    }

    private static void noPrivateNamesake() {
        Set<String> names = new TreeSet<>();
        for (Method method : Board.class.getMethods()) {
            names.add(method.getName());
        }
        for (Method method : Board.class.getDeclaredMethods()) {
            if (Modifier.isPrivate(method.getModifiers())) {
                Due.no("a public method has the name of the private " + method, names.contains(method.getName()));
            }
        }
    }

    private static void noChangingStatic() {
        for (Field field : Board.class.getDeclaredFields()) {
            if (Modifier.isStatic(field.getModifiers())) {
                Due.yes(field + " is final", Modifier.isFinal(field.getModifiers()));
            }
        }
    }
}
