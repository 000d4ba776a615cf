import java.lang.reflect.Constructor;
import java.lang.reflect.Field;
import java.lang.reflect.Method;
import java.lang.reflect.Modifier;
import java.util.Arrays;
import java.util.Set;
import java.util.TreeSet;

/** The public face of the document, and rules 1 and 11 of LANGUAGE.md: this face and nothing else, in small classes. */
public final class FaceTest {
    private static final Due due = new Due();
    private static final Set<String> METHODS = new TreeSet<>(Arrays.asList(
            "addSpecimen4", "removeSpecimen1", "setWear3", "mergeDies3", "specimenCount0", "dieOf2", "dieCount1",
            "frequency2", "meanWearBits2", "coupleCount0", "coupleAt1", "componentCount0", "componentSize2",
            "cycleRank0", "bridgeCount0", "isBridge1", "compareCouples2", "isConsistent0", "coupleInOrder1",
            "generation1", "singletons1", "coverageEstimate1", "frequencyEstimate1", "undo0"));

    public static void main(String[] args) throws IllegalAccessException {
        due.holds("class is public and final", Modifier.isPublic(DieStudy.class.getModifiers())
                && Modifier.isFinal(DieStudy.class.getModifiers()));
        constructors();
        methods();
        constants();
        classesInside();
        due.end();
    }

    private static void constructors() {
        Constructor<?>[] all = DieStudy.class.getDeclaredConstructors();
        due.is("constructors", all.length, 1);
        due.holds("constructor is public and takes nothing",
                Modifier.isPublic(all[0].getModifiers()) && all[0].getParameterCount() == 0);
    }

    private static void methods() {
        Set<String> found = new TreeSet<>();
        Set<String> publicNames = new TreeSet<>();
        for (Method method : DieStudy.class.getDeclaredMethods()) {
            if (Modifier.isPrivate(method.getModifiers())) {
                continue;
            }
            due.holds(method + " is public, of int and of the object", Modifier.isPublic(method.getModifiers())
                    && !Modifier.isStatic(method.getModifiers()) && method.getReturnType() == int.class
                    && Arrays.stream(method.getParameterTypes()).allMatch(type -> type == int.class));
            found.add(method.getName() + method.getParameterCount());
            publicNames.add(method.getName());
        }
        due.holds("methods " + found, found.equals(METHODS));
        for (Method method : DieStudy.class.getDeclaredMethods()) {
            due.holds("private " + method.getName() + " has a name of its own",
                    !Modifier.isPrivate(method.getModifiers()) || !publicNames.contains(method.getName()));
        }
    }

    private static void constants() throws IllegalAccessException {
        Set<String> found = new TreeSet<>();
        for (Field field : DieStudy.class.getDeclaredFields()) {
            if (!Modifier.isPrivate(field.getModifiers())) {
                due.holds(field.getName() + " is public, static and final", Modifier.isPublic(field.getModifiers())
                        && Modifier.isStatic(field.getModifiers()) && Modifier.isFinal(field.getModifiers()));
                found.add(field.getName() + " = " + field.getInt(null));
            }
        }
        due.holds("constants " + found, found.equals(new TreeSet<>(Arrays.asList("INVALID_ARGUMENT = -1",
                "LIMIT_REACHED = -2", "NOT_FOUND = -3", "CONTRADICTION = -4"))));
    }

    private static void classesInside() {
        small(DieStudy.class);
        for (Class<?> inside : DieStudy.class.getDeclaredClasses()) {
            small(inside);
            for (Method method : inside.getDeclaredMethods()) {
                due.holds(method + " has a name of its own",
                        METHODS.stream().noneMatch(name -> name.replaceAll("\\d$", "").equals(method.getName())));
            }
            int modifiers = inside.getModifiers();
            due.holds(inside + " is static and not public", Modifier.isStatic(modifiers)
                    && !Modifier.isPublic(modifiers) && !Modifier.isProtected(modifiers));
        }
        due.holds("at most twelve classes", DieStudy.class.getDeclaredClasses().length < 12);
    }

    /** Rule 11: a method's parameters and a class's fields. */
    private static void small(Class<?> one) {
        for (Method method : one.getDeclaredMethods()) {
            due.holds(method + " takes at most seven", method.getParameterCount() <= 7);
        }
        long fields = Arrays.stream(one.getDeclaredFields())
                .filter(field -> !Modifier.isStatic(field.getModifiers())).count();
        due.holds(one + " has at most twenty fields", fields <= 20);
    }
}
