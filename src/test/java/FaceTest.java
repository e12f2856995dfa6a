import java.lang.reflect.Constructor;
import java.lang.reflect.Field;
import java.lang.reflect.Method;
import java.lang.reflect.Modifier;
import java.util.Arrays;
import java.util.Set;
import java.util.TreeSet;

/** The public face: its members, and no others that anybody outside could see. */
public final class FaceTest {
    public static void main(String[] args) {
        Set<String> seen = new TreeSet<>();
        for (Method method : RecordNode.class.getDeclaredMethods()) {
            if (!Modifier.isPrivate(method.getModifiers())) {
                seen.add(Modifier.toString(method.getModifiers()) + " " + method.getReturnType() + " " + method.getName()
                        + Arrays.toString(method.getParameterTypes()));
            }
        }
        for (Constructor<?> made : RecordNode.class.getDeclaredConstructors()) {
            seen.add(Modifier.toString(made.getModifiers()) + Arrays.toString(made.getParameterTypes()));
        }
        for (Field field : RecordNode.class.getDeclaredFields()) {
            if (!Modifier.isPrivate(field.getModifiers())) {
                seen.add(Modifier.toString(field.getModifiers()) + " " + field.getType() + " " + field.getName());
            }
        }
        Set<String> due = new TreeSet<>(Arrays.asList("public[int]", "public static final int NONE",
                "public boolean type[long, int]", "public void clear[]", "public int check[int]",
                "public int convert[int, int]", "public int at[int]", "public boolean open[]", "public boolean close[]",
                "public boolean feed[long, int]", "public boolean send[]", "public int tick[]", "public int take[]",
                "public int state[int]", "public int context[int]", "public int record[int, int]"));
        if (!seen.equals(due)) {
            System.out.println("the face is " + seen + ", due is " + due);
        }
        Kit.due("the face", seen.equals(due), true);
        Kit.due("modifiers", RecordNode.class.getModifiers(), Modifier.PUBLIC | Modifier.FINAL);
        privateNamesDiffer(due);
        Kit.end();
    }

    /** No method of the class or of those inside it may bear the name of a method of the face. */
    private static void privateNamesDiffer(Set<String> face) {
        for (Class<?> inside : RecordNode.class.getDeclaredClasses()) {
            Kit.due(inside + " is static", Modifier.isStatic(inside.getModifiers()), true);
            for (Method method : inside.getDeclaredMethods()) {
                boolean taken = face.stream().anyMatch(line -> line.contains(" " + method.getName() + "["));
                Kit.due(inside + "." + method.getName() + " bears a name of the face", taken, false);
            }
        }
        for (Method method : RecordNode.class.getDeclaredMethods()) {
            boolean taken = Modifier.isPrivate(method.getModifiers())
                    && face.stream().anyMatch(line -> line.contains(" " + method.getName() + "["));
            Kit.due(method.getName() + " bears a name of the face", taken, false);
        }
    }
}
