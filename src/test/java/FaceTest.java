import java.lang.reflect.Constructor;
import java.lang.reflect.Field;
import java.lang.reflect.Method;
import java.lang.reflect.Modifier;
import java.util.ArrayList;
import java.util.Arrays;
import java.util.List;
import java.util.TreeSet;

/** The public face: just the document's members, and no private method that bears the name of a public one. */
public final class FaceTest {
    private static final String ARGUMENT = " IllegalArgumentException";
    private static final String INDEX = " IndexOutOfBoundsException";
    private static final String STATE = " IllegalStateException";
    private static final String[] FACE = {
        "int begin 1" + ARGUMENT, "int put 4" + INDEX + ARGUMENT, "int add 5" + INDEX + ARGUMENT + STATE,
        "int wipe 2" + INDEX + ARGUMENT, "int shift 1" + ARGUMENT, "int turn 0", "int keep 1" + ARGUMENT,
        "int mark 0", "int goBack 0", "int set 1" + ARGUMENT, "int append 1" + ARGUMENT + STATE, "int clearBuffer 0",
        "int firstError 0", "int read 0" + ARGUMENT, "int undo 0" + STATE, "int at 3" + INDEX,
        "int line 3" + INDEX + ARGUMENT, "int slice 3" + INDEX + ARGUMENT, "int ordered 2" + ARGUMENT,
        "int difference 1" + ARGUMENT, "int count 1" + ARGUMENT, "int ifKept 1" + ARGUMENT,
        "int ifPut 5" + INDEX + ARGUMENT, "int best 1" + ARGUMENT, "int heaviest 1" + ARGUMENT, "double roomShare 0",
        "long digest 0"
    };

    public static void main(String[] args) throws NoSuchFieldException {
        List<Class<?>> classes = new ArrayList<>(List.of(CubeSlices.class));
        classes.addAll(Arrays.asList(CubeSlices.class.getDeclaredClasses()));
        TreeSet<String> face = new TreeSet<>();
        TreeSet<String> names = new TreeSet<>();
        for (Method method : CubeSlices.class.getDeclaredMethods()) {
            if (!Modifier.isPrivate(method.getModifiers())) {
                face.add(told(method));
                names.add(method.getName());
            }
        }
        same("the methods", face, new TreeSet<>(Arrays.asList(FACE)));
        for (Class<?> each : classes) {
            for (Method method : each.getDeclaredMethods()) {
                boolean isFace = each == CubeSlices.class && Modifier.isPublic(method.getModifiers());
                Check.same(each + " " + method.getName() + " bears a public name",
                        !isFace && names.contains(method.getName()) ? 1 : 0, 0);
            }
            for (Field field : each.getDeclaredFields()) {
                boolean isFixed = Modifier.isFinal(field.getModifiers()) || !Modifier.isStatic(field.getModifiers());
                boolean isHidden = Modifier.isPrivate(field.getModifiers()) || field.getName().equals("NONE");
                Check.same(each + " " + field.getName() + " is private and no state of the class",
                        isFixed && isHidden ? 1 : 0, 1);
            }
        }
        Constructor<?>[] constructors = CubeSlices.class.getDeclaredConstructors();
        Check.same("one constructor", constructors.length, 1);
        Check.same("a public one", constructors[0].getModifiers(), Modifier.PUBLIC);
        Check.same("the class", CubeSlices.class.getModifiers(), Modifier.PUBLIC | Modifier.FINAL);
        Field none = CubeSlices.class.getDeclaredField("NONE");
        Check.same("NONE", none.getModifiers(), Modifier.PUBLIC | Modifier.STATIC | Modifier.FINAL);
        Check.isTrue("NONE is an int", none.getType() == int.class);
        Check.end();
    }

    private static String told(Method method) {
        StringBuilder text = new StringBuilder();
        text.append(method.getReturnType()).append(' ').append(method.getName());
        text.append(' ').append(method.getParameterCount());
        for (Class<?> each : method.getExceptionTypes()) {
            text.append(' ').append(each.getSimpleName());
        }
        return text.toString();
    }

    private static void same(String what, TreeSet<String> got, TreeSet<String> due) {
        if (!got.equals(due)) {
            System.out.println(what + ": " + got + ", due is " + due);
        }
        Check.same(what, got.equals(due) ? 1 : 0, 1);
    }
}
