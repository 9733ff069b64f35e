import java.lang.reflect.Constructor;
import java.lang.reflect.Field;
import java.lang.reflect.Method;
import java.lang.reflect.Modifier;
import java.util.Arrays;
import java.util.List;
import java.util.TreeSet;

/** The document's "The public face": it stands as told, and nothing else of the class is seen from outside. */
final class FaceTest {
    private static final List<String> METHODS = List.of(
        "public int SignRows.person()",
        "public boolean SignRows.role(int,int,long,long)",
        "public int SignRows.thing(int)",
        "public boolean SignRows.byteOf(int,int)",
        "public int SignRows.sign(int,int,int,long) throws java.lang.IllegalStateException",
        "public boolean SignRows.holds(int)",
        "public boolean SignRows.withdraw(int)",
        "public boolean SignRows.order(int,int)",
        "public int SignRows.complete(int)",
        "public boolean SignRows.comment(int,int,long)",
        "public int SignRows.digest(int,int)",
        "public int SignRows.listed(int)",
        "public int SignRows.needs(int,int)");
    private static final List<String> CONSTANTS = List.of("NONE", "FULL", "LATE", "MAKER", "ORDER", "TWICE");

    public static void main(String[] args) {
        Answers answers = new Answers("face");
        answers.due("the class is public and final", SignRows.class.getModifiers(), Modifier.PUBLIC | Modifier.FINAL);
        methods(answers);
        fields(answers);
        values(answers);
        Constructor<?>[] made = SignRows.class.getDeclaredConstructors();
        answers.due("constructors", made.length, 1);
        answers.due("public SignRows()", made[0].toString().equals("public SignRows()"), true);
        for (Class<?> inner : SignRows.class.getDeclaredClasses()) {
            answers.due(inner + " is static", Modifier.isStatic(inner.getModifiers()), true);
            answers.due(inner + " is seen", Modifier.isPublic(inner.getModifiers()), false);
        }
        answers.close();
    }

    private static void methods(Answers answers) {
        TreeSet<String> seen = new TreeSet<>();
        for (Method method : SignRows.class.getDeclaredMethods()) {
            if (!Modifier.isPrivate(method.getModifiers())) {
                seen.add(method.toString());
            } else {
                boolean known = METHODS.stream().anyMatch(m -> m.contains("." + method.getName() + "("));
                answers.due(method + " bears a public name", known, false);
            }
        }
        answers.due("the methods are " + seen, seen.equals(new TreeSet<>(METHODS)), true);
    }

    private static void values(Answers answers) {
        answers.due("NONE", SignRows.NONE, -1);
        answers.due("FULL", SignRows.FULL, -2);
        answers.due("LATE", SignRows.LATE, -3);
        answers.due("MAKER", SignRows.MAKER, -4);
        answers.due("ORDER", SignRows.ORDER, -5);
        answers.due("TWICE", SignRows.TWICE, -6);
    }

    private static void fields(Answers answers) {
        TreeSet<String> seen = new TreeSet<>();
        for (Field field : SignRows.class.getDeclaredFields()) {
            if (!Modifier.isPrivate(field.getModifiers())) {
                seen.add(field.getName());
                int due = Modifier.PUBLIC | Modifier.STATIC | Modifier.FINAL;
                answers.due(field + " is a constant", field.getModifiers(), due);
                answers.due(field + " is an int", field.getType() == int.class, true);
            }
        }
        answers.due("the constants are " + Arrays.toString(seen.toArray()), seen.equals(new TreeSet<>(CONSTANTS)), true);
    }
}
