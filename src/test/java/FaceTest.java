import java.lang.reflect.Constructor;
import java.lang.reflect.Field;
import java.lang.reflect.Member;
import java.lang.reflect.Method;
import java.lang.reflect.Modifier;
import java.util.ArrayList;
import java.util.Collections;
import java.util.List;

/** The class has the document's face and nothing else that can be seen. */
public final class FaceTest {
    public static void main(String[] args) {
        Class<?> c = DrawCommands.class;
        Check.same("public and final", c.getModifiers() & (Modifier.PUBLIC | Modifier.FINAL),
            Modifier.PUBLIC | Modifier.FINAL);
        List<String> seen = new ArrayList<>();
        for (Constructor<?> m : c.getDeclaredConstructors()) {
            note(seen, m, m.toString());
        }
        for (Method m : c.getDeclaredMethods()) {
            note(seen, m, m.toString());
        }
        for (Field m : c.getDeclaredFields()) {
            note(seen, m, m.toString());
        }
        Collections.sort(seen);
        List<String> due = due();
        if (!seen.equals(due)) {
            System.out.println("seen: " + seen);
            System.out.println("due:  " + due);
        }
        Check.same("the face is as due", seen.equals(due) ? 1 : 0, 1);
        Check.same("NONE", DrawCommands.NONE, -1);
        noPublicNameTwice(c);
        Check.end();
    }

    private static void noPublicNameTwice(Class<?> c) {
        for (Method open : c.getDeclaredMethods()) {
            for (Method hidden : c.getDeclaredMethods()) {
                boolean twice = Modifier.isPublic(open.getModifiers()) && Modifier.isPrivate(hidden.getModifiers())
                    && open.getName().equals(hidden.getName());
                Check.same("a private " + hidden.getName(), twice ? 1 : 0, 0);
            }
        }
        for (Class<?> inner : c.getDeclaredClasses()) {
            Check.same(inner + " is static", inner.getModifiers() & Modifier.STATIC, Modifier.STATIC);
        }
    }

    private static void note(List<String> seen, Member m, String text) {
        if (!Modifier.isPrivate(m.getModifiers()) && !m.isSynthetic()) {
            seen.add(text.replace("DrawCommands.", "").replace("java.lang.", ""));
        }
    }

    private static List<String> due() {
        List<String> due = new ArrayList<>(List.of(
            "public static final int NONE",
            "public DrawCommands()",
            "public int word(int,int) throws IndexOutOfBoundsException",
            "public void frame(int,int) throws IllegalArgumentException",
            "public int put(int) throws UnsupportedOperationException",
            "public void clear()",
            "public void begin(boolean)",
            "public int next() throws IllegalStateException",
            "public int argument(int) throws IndexOutOfBoundsException",
            "public int kept(int,int,int) throws IllegalArgumentException",
            "public int about(int) throws IllegalArgumentException"));
        Collections.sort(due);
        return due;
    }
}
