import java.lang.reflect.Field;
import java.lang.reflect.Member;
import java.lang.reflect.Method;
import java.lang.reflect.Modifier;
import java.util.Arrays;
import java.util.TreeSet;

/** The public face: its constants, its methods, and nothing else that is seen from outside. */
final class FaceTest {
    private static final Check check = new Check("FaceTest");

    public static void main(String[] args) {
        check.due("BAD", -1, WormHeap.BAD);
        check.due("NOT", -2, WormHeap.NOT);
        check.due("FULL", -3, WormHeap.FULL);
        check.due("NONE", -4, WormHeap.NONE);
        check.due("NULL", -11, WormHeap.NULL);
        check.due("CAST", -12, WormHeap.CAST);
        check.due("INDEX", -13, WormHeap.INDEX);
        check.due("SIZE", -14, WormHeap.SIZE);
        String face = "copy(int, int, int, int, int) count(int) dents(int, int, int, int) drop(int) film(int, int, int) "
            + "had(int, int) heap() image() item(int, int, int, long) lay(int, int) lift(int) night() "
            + "odds(int, int, int, int, int) of(int, int) own() piece(int, int, int, int) push(int, int) restore() "
            + "sense(int, int) share(int, int, int) sheet(int, int, int) swap(int, int) told(int, int) "
            + "tried(int, int, int, int, int) turn() type(long, int) under(int)";
        TreeSet<String> methods = new TreeSet<>();
        for (Method method : WormHeap.class.getDeclaredMethods()) {
            if (isSeen(method)) {
                String types = Arrays.toString(method.getParameterTypes()).replace('[', '(').replace(']', ')');
                methods.add(method.getName() + types);
                check.holds("answers an int: " + method, method.getReturnType() == int.class);
                check.holds("public, of an object: " + method, Modifier.isPublic(method.getModifiers())
                    && !Modifier.isStatic(method.getModifiers()));
            }
        }
        check.holds("the methods of the face: " + methods, String.join(" ", methods).equals(face));
        int constants = 0;
        for (Field field : WormHeap.class.getDeclaredFields()) {
            if (isSeen(field)) {
                constants++;
                int due = Modifier.PUBLIC | Modifier.STATIC | Modifier.FINAL;
                check.due("a constant: " + field, due, field.getModifiers());
            }
        }
        check.due("eight constants", 8, constants);
        check.due("one constructor", 1, WormHeap.class.getConstructors().length);
        check.due("it takes nothing", 0, WormHeap.class.getConstructors()[0].getParameterCount());
        check.holds("final", Modifier.isFinal(WormHeap.class.getModifiers()));
        check.done();
    }

    private static boolean isSeen(Member member) {
        return !member.isSynthetic() && (member.getModifiers() & (Modifier.PUBLIC | Modifier.PROTECTED)) != 0;
    }
}
