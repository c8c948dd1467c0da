import java.lang.reflect.Constructor;
import java.lang.reflect.Field;
import java.lang.reflect.Method;
import java.lang.reflect.Modifier;
import java.util.HashSet;
import java.util.Set;
import java.util.TreeSet;

/** That the class shows the document's face and nothing else (rule 1 of the language). */
public final class StoneRingsFace {
    private static final String[] METHODS = {
        "boolean pixel(int, int, int) throws IndexOutOfBoundsException, IllegalArgumentException",
        "int middle(int) throws IndexOutOfBoundsException",
        "int ray(int, int) throws IllegalArgumentException, IllegalStateException",
        "int samples(int) throws IndexOutOfBoundsException",
        "int sample(int, int, boolean) throws IndexOutOfBoundsException",
        "void rule(int, int) throws IllegalArgumentException",
        "int rings(int) throws IndexOutOfBoundsException",
        "int ring(int, int, int) throws IndexOutOfBoundsException",
        "int join(int, int, int) throws IndexOutOfBoundsException, IllegalArgumentException",
        "int joined(int) throws IllegalStateException, IndexOutOfBoundsException",
        "int back(int, int, int) throws IndexOutOfBoundsException, IllegalArgumentException",
        "void tell(int, int, int) throws IndexOutOfBoundsException, IllegalArgumentException, IllegalStateException",
        "boolean may(int, int) throws IndexOutOfBoundsException",
        "int seen(int, int, int) throws IndexOutOfBoundsException, IllegalStateException",
        "int agree(int, int, int) throws IndexOutOfBoundsException",
        "int bias(int, int, int) throws IndexOutOfBoundsException",
        "int told(int) throws IndexOutOfBoundsException",
        "int right(int) throws IndexOutOfBoundsException",
        "int best(int) throws IndexOutOfBoundsException",
        "int age(int, int, int) throws IndexOutOfBoundsException, IllegalArgumentException",
        "boolean twin(int, int) throws IndexOutOfBoundsException",
        "int count(int)",
    };

    private static int wrong = 0;

    private static void due(String what, Object got, Object want) {
        if (!got.equals(want)) {
            wrong++;
            System.out.println(what + ": got " + got + ", due is " + want);
        }
    }

    private static String names(Class<?>[] types) {
        StringBuilder text = new StringBuilder();
        for (Class<?> type : types) {
            text.append(text.length() > 0 ? ", " : "").append(type.getSimpleName());
        }
        return text.toString();
    }

    private static String written(Method method) {
        String throwing = names(method.getExceptionTypes());
        return method.getReturnType().getSimpleName() + " " + method.getName() + "(" + names(method.getParameterTypes()) + ")"
                + (throwing.isEmpty() ? "" : " throws " + throwing);
    }

    private static void methods() {
        Set<String> shown = new TreeSet<>();
        Set<String> shownNames = new HashSet<>();
        for (Method method : StoneRings.class.getDeclaredMethods()) {
            if (!Modifier.isPrivate(method.getModifiers()) && !method.isSynthetic()) {
                shown.add((Modifier.isPublic(method.getModifiers()) ? "" : "not public: ") + written(method));
                shownNames.add(method.getName());
            }
        }
        due("the methods shown", shown, new TreeSet<>(Set.of(METHODS)));
        for (Method method : StoneRings.class.getDeclaredMethods()) {
            if (Modifier.isPrivate(method.getModifiers())) {
                due("private " + method.getName() + " bears a shown name", shownNames.contains(method.getName()), false);
            }
        }
        for (Class<?> inside : StoneRings.class.getDeclaredClasses()) {
            for (Method method : inside.getDeclaredMethods()) {
                due(inside.getSimpleName() + "." + method.getName() + " bears a shown name",
                        shownNames.contains(method.getName()), false);
            }
        }
    }

    private static void rest() {
        int all = StoneRings.class.getModifiers();
        due("public and final", Modifier.isPublic(all) && Modifier.isFinal(all), true);
        for (Field field : StoneRings.class.getDeclaredFields()) {
            boolean none = field.getName().equals("NONE");
            due("field " + field.getName(), Modifier.isPrivate(field.getModifiers()), !none);
            due("final if static: " + field.getName(),
                    !Modifier.isStatic(field.getModifiers()) || Modifier.isFinal(field.getModifiers()), true);
        }
        due("NONE", StoneRings.NONE, -1);
        Constructor<?>[] makers = StoneRings.class.getDeclaredConstructors();
        due("constructors", makers.length, 1);
        due("constructor's parameters", names(makers[0].getParameterTypes()), "int, int");
        due("constructor's exceptions", makers[0].getExceptionTypes().length, 0);
        due("constructor is public", Modifier.isPublic(makers[0].getModifiers()), true);
        for (Class<?> inside : StoneRings.class.getDeclaredClasses()) {
            int how = inside.getModifiers();
            due("class " + inside.getSimpleName() + " is static and not shown",
                    Modifier.isStatic(how) && !Modifier.isPublic(how) && !Modifier.isProtected(how), true);
        }
    }

    public static void main(String[] args) {
        methods();
        rest();
        System.out.println(wrong == 0 ? "the face is as due" : wrong + " things of the face are not as due");
        if (wrong != 0) {
            System.exit(1);
        }
    }
}
