import java.lang.reflect.Constructor;
import java.lang.reflect.Field;
import java.lang.reflect.Method;
import java.lang.reflect.Modifier;
import java.util.Arrays;
import java.util.Set;
import java.util.TreeSet;

/** The public face: all members of the document, and no other that is not private. */
final class FaceTest {
    private static final Check CHECK = new Check();

    public static void main(String[] args) {
        Set<String> face = new TreeSet<>(Arrays.asList(
            "public static final int UserCore.NONE",
            "public UserCore()",
            "public boolean UserCore.poke(int,int,long)",
            "public int UserCore.peek(int)",
            "public boolean UserCore.protect(int,int)",
            "public boolean UserCore.set(int,int)",
            "public int UserCore.register(int)",
            "public void UserCore.jump(int)",
            "public int UserCore.pc()",
            "public int UserCore.run(int) throws java.lang.IllegalArgumentException",
            "public int UserCore.trap()",
            "public int UserCore.value()",
            "public int UserCore.done()"));
        Set<String> found = new TreeSet<>();
        Set<String> publicNames = new TreeSet<>();
        for (Field field : UserCore.class.getDeclaredFields()) {
            if (!Modifier.isPrivate(field.getModifiers())) {
                found.add(field.toString());
            }
            if (Modifier.isStatic(field.getModifiers())) {
                CHECK.due("static field " + field.getName() + " is final",
                    Modifier.isFinal(field.getModifiers()), true);
            }
        }
        for (Constructor<?> constructor : UserCore.class.getDeclaredConstructors()) {
            found.add(constructor.toString());
        }
        for (Method method : UserCore.class.getDeclaredMethods()) {
            if (!Modifier.isPrivate(method.getModifiers())) {
                found.add(method.toString());
                publicNames.add(method.getName());
            }
        }
        for (Method method : UserCore.class.getDeclaredMethods()) {
            if (Modifier.isPrivate(method.getModifiers())) {
                CHECK.due("private " + method.getName() + " bears a public name",
                    publicNames.contains(method.getName()), false);
            }
        }
        CHECK.due("the face is " + found + ", that it is as due", found.equals(face), true);
        CHECK.due("public and final", UserCore.class.getModifiers(), Modifier.PUBLIC | Modifier.FINAL);
        CHECK.due("NONE", UserCore.NONE, -1);
        CHECK.end();
    }
}
