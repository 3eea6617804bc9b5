import java.lang.reflect.Constructor;
import java.lang.reflect.Field;
import java.lang.reflect.Method;
import java.lang.reflect.Modifier;
import java.util.ArrayList;
import java.util.Arrays;
import java.util.List;
import java.util.TreeSet;

/** The public face of the class, as the document writes it, and what LANGUAGE.md says of the face. */
public final class FaceTest {
    private static final String A = "IllegalArgumentException";
    private static final String B = "IndexOutOfBoundsException";
    private static final String S = "IllegalStateException";

    private static final String[] METHODS = {
        "int setCircuits(int) " + A, "int setDelay(int) " + A, "boolean setFaulty(int,boolean) " + B,
        "int loseNext(int,int) " + B + "," + A, "int call(int,boolean) " + B + "," + S, "int accept(int,int) " + B + "," + S,
        "int answer(int,int) " + B + "," + S, "int suspend(int,int) " + B + "," + S, "int resume(int,int) " + B + "," + S,
        "int release(int,int) " + B + "," + S, "int block(int,int) " + B + "," + S, "int unblock(int,int) " + B + "," + S,
        "int reset(int,int,int) " + B, "int tick(int) " + A, "int time() ", "int end(int,int,int) " + B + "," + A,
        "int calls() ", "int callValue(int,int) " + B + "," + A, "int messages() ", "int message(int,int) " + B + "," + A,
        "int choice(int) " + B, "int count(int) " + A, "int total(int) " + A, "int undo() " + S, "long digest() "};

    private static final String[] CONSTANTS = {
        "IDLE,OUTGOING,INCOMING,RINGING,TALKING,SUSPENDED,RELEASING,RESETTING",
        "SEIZE,CHECKED,COMPLETE,ANSWER,SUSPEND,RESUME,RELEASE,RELEASED,BLOCK,BLOCK_DONE,UNBLOCK,UNBLOCK_DONE,RESET,RESET_DONE",
        "NOT_BLOCKED,BLOCKING,BLOCKED,UNBLOCKING",
        "SETTING_UP,IN_RINGING,IN_TALKING,IN_SUSPENSION,ENDED",
        "NORMAL,TIMEOUT,GLARE,CHECK,BLOCKAGE,RESETTING_CAUSE,LOST"};

    public static void main(String[] args) throws ReflectiveOperationException {
        Class<TrunkGroup> face = TrunkGroup.class;
        Script.expect("the class", Modifier.toString(face.getModifiers()), "public final");
        methods(face);
        constants(face);
        constructors(face);
        nothingElse(face);
        Script.finish();
    }

    private static void methods(Class<?> face) {
        List<String> got = new ArrayList<>();
        for (Method method : face.getDeclaredMethods()) {
            if (Modifier.isPublic(method.getModifiers())) {
                Script.expect(method.getName(), Modifier.toString(method.getModifiers()), "public");
                got.add(method.getReturnType() + " " + method.getName() + names(method.getParameterTypes(), "(", ") ")
                    + names(method.getExceptionTypes(), "", ""));
            }
        }
        Script.expect("the methods", new TreeSet<>(got), new TreeSet<>(Arrays.asList(METHODS)));
    }

    private static String names(Class<?>[] types, String before, String behind) {
        List<String> names = new ArrayList<>();
        for (Class<?> type : types) {
            names.add(type.getSimpleName());
        }
        return before + String.join(",", names) + behind;
    }

    private static void constants(Class<?> face) throws ReflectiveOperationException {
        Script.expect("NONE", face.getField("NONE").getInt(null), -1);
        int known = 1;
        for (String group : CONSTANTS) {
            String[] names = group.split(",");
            for (int value = 0; value < names.length; value++) {
                Field field = face.getField(names[value]);
                Script.expect(names[value], field.getInt(null), value);
                Script.expect(names[value], Modifier.toString(field.getModifiers()), "public static final");
                known++;
            }
        }
        Script.expect("the number of constants", face.getFields().length, known);
    }

    private static void constructors(Class<?> face) {
        Constructor<?>[] constructors = face.getDeclaredConstructors();
        Script.expect("the number of constructors", constructors.length, 1);
        Script.expect("the constructor", constructors[0].toString(), "public TrunkGroup()");
    }

    private static void nothingElse(Class<?> face) {
        TreeSet<String> publicNames = new TreeSet<>();
        for (String method : METHODS) {
            publicNames.add(method.substring(method.indexOf(' ') + 1, method.indexOf('(')));
        }
        noMoreMembers(face, publicNames);
        for (Class<?> inside : face.getDeclaredClasses()) {
            Script.expect("static: " + inside, Modifier.isStatic(inside.getModifiers()), true);
            Script.expect("not public: " + inside, Modifier.isPublic(inside.getModifiers()), false);
            for (Method method : inside.getDeclaredMethods()) {
                Script.expect("a name of its own: " + method, publicNames.contains(method.getName()), false);
            }
            staticFieldsAreFinal(inside);
        }
    }

    private static void noMoreMembers(Class<?> face, TreeSet<String> publicNames) {
        for (Method method : face.getDeclaredMethods()) {
            if (!Modifier.isPublic(method.getModifiers())) {
                Script.expect("private: " + method, Modifier.isPrivate(method.getModifiers()), true);
                Script.expect("a name of its own: " + method, publicNames.contains(method.getName()), false);
            }
        }
        for (Field field : face.getDeclaredFields()) {
            boolean hidden = Modifier.isPrivate(field.getModifiers());
            boolean constant = Modifier.isPublic(field.getModifiers()) && Modifier.isStatic(field.getModifiers());
            Script.expect("private, or a constant: " + field, hidden || constant, true);
        }
        staticFieldsAreFinal(face);
    }

    private static void staticFieldsAreFinal(Class<?> type) {
        for (Field field : type.getDeclaredFields()) {
            if (Modifier.isStatic(field.getModifiers())) {
                Script.expect("final: " + field, Modifier.isFinal(field.getModifiers()), true);
            }
        }
    }
}
