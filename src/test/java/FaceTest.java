import java.lang.reflect.Constructor;
import java.lang.reflect.Field;
import java.lang.reflect.Method;
import java.lang.reflect.Modifier;
import java.util.Arrays;
import java.util.Set;
import java.util.TreeSet;

/** The public face: the document's members as they are written there, and no other that can be seen. */
public final class FaceTest {
    private static final Check check = new Check();

    private static final String[] FACE = {
        "public static final int PortDesk.NONE",
        "public PortDesk()",
        "public int PortDesk.collect(int,long)",
        "public boolean PortDesk.answer(int,long)",
        "public boolean PortDesk.fails(int,int)",
        "public int PortDesk.make(int) throws java.lang.IllegalArgumentException,java.lang.IllegalStateException",
        "public boolean PortDesk.drop(int,int)",
        "public long PortDesk.call(int,int,long)",
        "public long PortDesk.again(int,int,long)",
        "public long PortDesk.told(int) throws java.lang.IndexOutOfBoundsException",
        "public int PortDesk.numbers(int)",
        "public int PortDesk.number(int,int) throws java.lang.IllegalArgumentException",
        "public long PortDesk.collected(int,int) throws java.lang.IndexOutOfBoundsException",
        "public long PortDesk.log(int,int) throws java.lang.IndexOutOfBoundsException",
        "public long PortDesk.sum(int,int) throws java.lang.IllegalArgumentException",
        "public boolean PortDesk.same()",
    };

    public static void main(String[] args) {
        Set<String> due = new TreeSet<>(Arrays.asList(FACE));
        Set<String> seen = seenMembers();
        for (String member : due) {
            check.due("the face has " + member, seen.contains(member), true);
        }
        for (String member : seen) {
            check.due("the face rules out " + member, due.contains(member), true);
        }
        int modifiers = PortDesk.class.getModifiers();
        check.due("public and final", Modifier.isPublic(modifiers) && Modifier.isFinal(modifiers), true);
        check.end();
    }

    private static Set<String> seenMembers() {
        Set<String> seen = new TreeSet<>();
        for (Field field : PortDesk.class.getDeclaredFields()) {
            if (!Modifier.isPrivate(field.getModifiers())) {
                seen.add(field.toString());
            }
        }
        for (Constructor<?> constructor : PortDesk.class.getDeclaredConstructors()) {
            if (!Modifier.isPrivate(constructor.getModifiers())) {
                seen.add(constructor.toString());
            }
        }
        for (Method method : PortDesk.class.getDeclaredMethods()) {
            if (!Modifier.isPrivate(method.getModifiers())) {
                seen.add(method.toString());
            }
        }
        return seen;
    }
}
