import java.lang.reflect.Constructor;
import java.lang.reflect.Field;
import java.lang.reflect.Method;
import java.lang.reflect.Modifier;
import java.util.ArrayList;
import java.util.Collections;
import java.util.List;
import java.util.TreeSet;

/** The public face of the document, and rule 1 of LANGUAGE.md. */
public final class FaceTest {
    private static final String[] FACE = {
        "boolean entry(int,int,int,int)", "boolean fresh(int)", "boolean noise(int,int)", "boolean pending(int)",
        "boolean request(int)", "boolean sleep()", "boolean start(int)", "boolean wake()", "boolean write(int,int)",
        "int bus(int)", "int count(int)", "int event(int,int,int,int,int)", "int frame(int,int,int,boolean)",
        "int position()", "int read(int)", "int signal(int,int,int,int)", "int sporadic(int,int,int)", "int tick()",
    };

    private final Check check = new Check();

    private static String told(Method method) {
        List<String> parameters = new ArrayList<>();
        for (Class<?> type : method.getParameterTypes()) {
            parameters.add(type.getName());
        }
        return method.getReturnType().getName() + " " + method.getName() + "(" + String.join(",", parameters) + ")";
    }

    private void methods() {
        List<String> found = new ArrayList<>();
        TreeSet<String> names = new TreeSet<>();
        for (Method method : HeaderSchedule.class.getDeclaredMethods()) {
            if (!Modifier.isPrivate(method.getModifiers())) {
                found.add(told(method));
                names.add(method.getName());
            }
        }
        Collections.sort(found);
        check.yes("the methods are " + found, found.equals(List.of(FACE)));
        for (Method method : HeaderSchedule.class.getDeclaredMethods()) {
            if (Modifier.isPrivate(method.getModifiers())) {
                check.no("private " + method.getName() + " bears a public name", names.contains(method.getName()));
            }
        }
    }

    private void members() {
        int modifiers = HeaderSchedule.class.getModifiers();
        check.yes("public and final", Modifier.isPublic(modifiers) && Modifier.isFinal(modifiers));
        for (Field field : HeaderSchedule.class.getDeclaredFields()) {
            check.due("private " + field.getName(), Modifier.isPrivate(field.getModifiers()), !field.getName().equals("NONE"));
        }
        Constructor<?>[] constructors = HeaderSchedule.class.getDeclaredConstructors();
        check.due("constructors", constructors.length, 1);
        check.yes("public constructor", Modifier.isPublic(constructors[0].getModifiers()));
        for (Class<?> inside : HeaderSchedule.class.getDeclaredClasses()) {
            check.yes(inside.getName() + " is static", Modifier.isStatic(inside.getModifiers()));
        }
        check.due("NONE", HeaderSchedule.NONE, -1);
    }

    public static void main(String[] args) {
        FaceTest test = new FaceTest();
        test.methods();
        test.members();
        test.check.end();
    }
}
