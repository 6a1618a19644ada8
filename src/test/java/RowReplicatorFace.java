import java.lang.reflect.Field;
import java.lang.reflect.Method;
import java.lang.reflect.Modifier;
import java.util.TreeSet;

/** The class bears the document's face, with its exceptions, and shows nothing else. */
public final class RowReplicatorFace {
    private static final String OUTSIDE = " throws IndexOutOfBoundsException";
    private static final String ARGUMENT = "IllegalArgumentException";
    private static final String NOT_NOW = "IllegalStateException";
    private static final String[] FACE = {
        "boolean put(int int int int int)" + OUTSIDE + " " + ARGUMENT + " " + NOT_NOW,
        "void take(int int)" + OUTSIDE + " " + NOT_NOW,
        "int truncate(int)" + OUTSIDE + " " + NOT_NOW,
        "int commit() throws " + NOT_NOW,
        "int rollBack()",
        "int at(int int int)" + OUTSIDE,
        "int commits()",
        "int setLimit(int) throws " + ARGUMENT,
        "int setCondition(int int int int int)" + OUTSIDE + " " + ARGUMENT,
        "int setColumns(int int int)" + OUTSIDE + " " + ARGUMENT,
        "int subscribe(int int)" + OUTSIDE,
        "int drop(int)" + OUTSIDE,
        "int copy(int int)" + OUTSIDE + " " + NOT_NOW,
        "int receive(int int)" + OUTSIDE + " " + ARGUMENT + " " + NOT_NOW,
        "int goOn(int boolean)" + OUTSIDE + " " + NOT_NOW,
        "boolean own(int int int int)" + OUTSIDE + " " + ARGUMENT,
        "int state(int)" + OUTSIDE,
        "int lag(int)" + OUTSIDE,
        "int copiedAt(int int)" + OUTSIDE,
        "int seen(int int int int)" + OUTSIDE,
        "boolean isFaithful(int int)" + OUTSIDE + " " + NOT_NOW,
    };

    private static int wrong = 0;

    private static void due(boolean holds, String what) {
        if (!holds) {
            wrong++;
            System.out.println(what);
        }
    }

    private static String textOf(Method method) {
        StringBuilder text = new StringBuilder();
        text.append(method.getReturnType().getName()).append(' ').append(method.getName()).append('(');
        text.append(namesOf(method.getParameterTypes())).append(')');
        if (method.getExceptionTypes().length > 0) {
            text.append(" throws ").append(namesOf(method.getExceptionTypes()));
        }
        return text.toString();
    }

    private static String namesOf(Class<?>[] types) {
        StringBuilder names = new StringBuilder();
        for (Class<?> type : types) {
            names.append(names.length() == 0 ? "" : " ").append(type.getSimpleName());
        }
        return names.toString();
    }

    public static void main(String[] args) {
        Class<?> program = RowReplicator.class;
        due(program.getModifiers() == (Modifier.PUBLIC | Modifier.FINAL), "the class is not public final");
        due(program.getDeclaredConstructors().length == 1, "there is not one constructor");
        due(program.getConstructors().length == 1, "the constructor is not public");
        due(program.getPackageName().isEmpty(), "the class is in a package");
        due(program.getSuperclass() == Object.class && program.getInterfaces().length == 0,
            "the class is of another kind, too");
        for (Class<?> inside : program.getDeclaredClasses()) {
            int shown = inside.getModifiers() & (Modifier.PUBLIC | Modifier.PROTECTED);
            due(shown == 0, "a class inside is shown: " + inside);
        }
        for (Field field : program.getDeclaredFields()) {
            due(Modifier.isPrivate(field.getModifiers()), "not private: " + field);
        }
        TreeSet<String> publicOnes = new TreeSet<>();
        TreeSet<String> privateNames = new TreeSet<>();
        for (Method method : program.getDeclaredMethods()) {
            if (method.getModifiers() == Modifier.PUBLIC) {
                publicOnes.add(textOf(method));
            } else {
                due(Modifier.isPrivate(method.getModifiers()), "neither public nor private: " + method);
                privateNames.add(method.getName());
            }
        }
        for (String promised : FACE) {
            due(publicOnes.remove(promised), "missing: " + promised);
            String name = promised.substring(promised.indexOf(' ') + 1, promised.indexOf('('));
            due(!privateNames.contains(name), "a private method bears the name " + name);
        }
        due(publicOnes.isEmpty(), "not in the document: " + publicOnes);
        System.out.println(wrong == 0 ? "the face is as due" : wrong + " things of the face are not as due");
        if (wrong != 0) {
            System.exit(1);
        }
    }
}
