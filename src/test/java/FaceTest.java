import java.lang.reflect.Constructor;
import java.lang.reflect.Field;
import java.lang.reflect.Method;
import java.lang.reflect.Modifier;
import java.util.Set;
import java.util.TreeSet;

/** The class shows the document's face and nothing beside it, and no private method takes one of its names. */
public final class FaceTest {
    private static final Set<String> FACE = Set.of(
        "public static final int QuietWatch.NONE",
        "public QuietWatch(int)",
        "public boolean QuietWatch.start()",
        "public boolean QuietWatch.send(int,int)",
        "public boolean QuietWatch.rest(int)",
        "public int QuietWatch.ask(int,int)",
        "public boolean QuietWatch.answer(int,int)",
        "public int QuietWatch.probe(int)",
        "public int QuietWatch.pass(int)",
        "public int QuietWatch.receive(int,int)",
        "public int QuietWatch.run(int,int)",
        "public int QuietWatch.told(int,int)",
        "public boolean QuietWatch.waits(int,int)",
        "public int QuietWatch.message(int,int,int,int)",
        "public boolean QuietWatch.quiet()",
        "public int QuietWatch.wrong()",
        "public int QuietWatch.falsely()",
        "public int QuietWatch.count(int)");

    private static int wrong = 0;

    private static void due(String what, Object got, Object want) {
        if (!got.equals(want)) {
            wrong++;
            System.out.println(what + " is " + got + ", due is " + want);
        }
    }

    private static Set<String> shown(Class<?> type) {
        Set<String> shown = new TreeSet<>();
        for (Field field : type.getDeclaredFields()) {
            if (!Modifier.isPrivate(field.getModifiers())) {
                shown.add(field.toString());
            }
        }
        for (Constructor<?> constructor : type.getDeclaredConstructors()) {
            if (!Modifier.isPrivate(constructor.getModifiers())) {
                shown.add(constructor.toString());
            }
        }
        for (Method method : type.getDeclaredMethods()) {
            if (!Modifier.isPrivate(method.getModifiers())) {
                shown.add(method.toString());
            }
        }
        return shown;
    }

    private static void privateNamesAreTheirOwn() {
        Set<String> names = new TreeSet<>();
        for (Method method : QuietWatch.class.getDeclaredMethods()) {
            if (Modifier.isPublic(method.getModifiers())) {
                names.add(method.getName());
            }
        }
        for (Method method : QuietWatch.class.getDeclaredMethods()) {
            if (Modifier.isPrivate(method.getModifiers())) {
                due("a public method named as the private " + method.getName(), names.contains(method.getName()), false);
            }
        }
    }

    private static void staticFieldsAreFinal() {
        for (Field field : QuietWatch.class.getDeclaredFields()) {
            if (Modifier.isStatic(field.getModifiers())) {
                due("final, of the static field " + field.getName(), Modifier.isFinal(field.getModifiers()), true);
            }
        }
    }

    private static void classesInsideAreStatic() {
        for (Class<?> inside : QuietWatch.class.getDeclaredClasses()) {
            due("static, of " + inside.getName(), Modifier.isStatic(inside.getModifiers()), true);
            due("public, of " + inside.getName(), Modifier.isPublic(inside.getModifiers()), false);
        }
    }

    public static void main(String[] args) {
        due("what the class shows", shown(QuietWatch.class), new TreeSet<>(FACE));
        due("final, of the class", Modifier.isFinal(QuietWatch.class.getModifiers()), true);
        due("NONE", QuietWatch.NONE, -1);
        privateNamesAreTheirOwn();
        staticFieldsAreFinal();
        classesInsideAreStatic();
        System.out.println(wrong == 0 ? "the face is as due" : wrong + " faults");
        if (wrong != 0) {
            System.exit(1);
        }
    }
}
