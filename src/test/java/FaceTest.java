import java.lang.reflect.Constructor;
import java.lang.reflect.Field;
import java.lang.reflect.Method;
import java.lang.reflect.Modifier;
import java.util.Arrays;
import java.util.Set;
import java.util.TreeSet;

/** The public face: its members, and no others that anybody outside could see. */
public final class FaceTest {
    public static void main(String[] args) throws ReflectiveOperationException {
        Set<String> seen = new TreeSet<>();
        for (Method method : RecordNode.class.getDeclaredMethods()) {
            if (!Modifier.isPrivate(method.getModifiers())) {
                seen.add(Modifier.toString(method.getModifiers()) + " " + method.getReturnType() + " " + method.getName()
                        + Arrays.toString(method.getParameterTypes()));
            }
        }
        for (Constructor<?> made : RecordNode.class.getDeclaredConstructors()) {
            seen.add(Modifier.toString(made.getModifiers()) + Arrays.toString(made.getParameterTypes()));
        }
        for (Field field : RecordNode.class.getDeclaredFields()) {
            if (!Modifier.isPrivate(field.getModifiers())) {
                seen.add(Modifier.toString(field.getModifiers()) + " " + field.getType() + " " + field.getName());
            }
        }
        Set<String> due = new TreeSet<>(Arrays.asList("public[int]", "public static final int NONE",
                "public boolean type[long, int]", "public void clear[]", "public int check[int]",
                "public int convert[int, int]", "public int at[int]", "public boolean open[]", "public boolean close[]",
                "public boolean feed[long, int]", "public boolean send[]", "public int tick[]", "public int take[]",
                "public int state[int]", "public int context[int]", "public int record[int, int]"));
        if (!seen.equals(due)) {
            System.out.println("the face is " + seen + ", due is " + due);
        }
        Kit.due("the face", seen.equals(due), true);
        Kit.due("modifiers", RecordNode.class.getModifiers(), Modifier.PUBLIC | Modifier.FINAL);
        Kit.due("NONE", valueOfNone(), -1);
        for (Method method : RecordNode.class.getDeclaredMethods()) {
            if (Modifier.isPublic(method.getModifiers())) {
                String told = Arrays.toString(method.getExceptionTypes());
                Kit.due(method.getName() + " says that it throws " + told, told.equals(thrownBy(method.getName())), true);
            }
        }
        privateNamesDiffer(due);
        Kit.end();
    }

    /** Not by its name: then the compiler would write its value into this class. */
    private static int valueOfNone() throws ReflectiveOperationException {
        return RecordNode.class.getDeclaredField("NONE").getInt(null);
    }

    private static String thrownBy(String method) {
        switch (method) {
            case "check":
            case "feed":
                return "[class java.lang.IllegalArgumentException]";
            case "convert":
                return "[class java.lang.IllegalArgumentException, class java.lang.IllegalStateException]";
            case "at":
            case "take":
            case "record":
                return "[class java.util.NoSuchElementException]";
            default:
                return "[]";
        }
    }

    /** No method of the class or of those inside it may bear the name of a method of the face. */
    private static void privateNamesDiffer(Set<String> face) {
        for (Class<?> inside : RecordNode.class.getDeclaredClasses()) {
            Kit.due(inside + " is static", Modifier.isStatic(inside.getModifiers()), true);
            for (Method method : inside.getDeclaredMethods()) {
                boolean taken = face.stream().anyMatch(line -> line.contains(" " + method.getName() + "["));
                Kit.due(inside + "." + method.getName() + " bears a name of the face", taken, false);
            }
        }
        for (Method method : RecordNode.class.getDeclaredMethods()) {
            boolean taken = Modifier.isPrivate(method.getModifiers())
                    && face.stream().anyMatch(line -> line.contains(" " + method.getName() + "["));
            Kit.due(method.getName() + " bears a name of the face", taken, false);
        }
    }
}
