import java.lang.reflect.Constructor;
import java.lang.reflect.Field;
import java.lang.reflect.Method;
import java.lang.reflect.Modifier;
import java.util.Arrays;
import java.util.Set;
import java.util.TreeSet;

/** The public face, member by member, and rule 1 of LANGUAGE.md. */
public final class FaceTest {
    private static final String[] FACE = {
        "int addRaw() IllegalStateException",
        "int mix(int,int) IllegalArgumentException,IllegalStateException,UnsupportedOperationException",
        "int rawCount()", "int batchCount()",
        "boolean isFaulty(int) IndexOutOfBoundsException",
        "int strengthOf(int) IndexOutOfBoundsException",
        "boolean batchContains(int,int) IndexOutOfBoundsException",
        "int addLabel() IllegalArgumentException,IllegalStateException",
        "int labelCount()",
        "int labelLength(int) IndexOutOfBoundsException",
        "char labelLetter(int,int) IndexOutOfBoundsException",
        "int scan() IllegalArgumentException,NoSuchElementException",
        "int distanceTo(int) IndexOutOfBoundsException,IllegalArgumentException",
        "int distanceByLetters(int) IndexOutOfBoundsException,IllegalArgumentException",
        "int fill(int,int,int,int) IndexOutOfBoundsException,IllegalArgumentException,IllegalStateException,"
            + "UnsupportedOperationException",
        "int ship(int) NoSuchElementException",
        "int pass(int) IllegalArgumentException",
        "int recall(int) IndexOutOfBoundsException,IllegalStateException",
        "int lotCount()",
        "int lotAt(int) IndexOutOfBoundsException",
        "int jarsOf(int) NoSuchElementException",
        "int labelOf(int) NoSuchElementException",
        "int strengthOfLot(int) NoSuchElementException",
        "int pressureOf(int) NoSuchElementException",
        "boolean lotContains(int,int) NoSuchElementException,IndexOutOfBoundsException",
        "int daysUntilPop(int) NoSuchElementException",
        "int daysByDivision(int) NoSuchElementException",
        "int lotByPressure(int) NoSuchElementException",
        "int affectedLots(int) IndexOutOfBoundsException",
        "int affectedBySets(int) IndexOutOfBoundsException",
        "int leastCrates(int) IllegalArgumentException",
        "int leastCratesByTrial(int) IllegalArgumentException",
        "int fewestTests()", "int fewestTestsByBranching()",
        "boolean isTested(int) IndexOutOfBoundsException",
        "int dayCount()", "int filled()", "int stored()", "int shipped()", "int recalled()", "int spoiled()",
        "double meanPressure() ArithmeticException",
        "float shippedShare() ArithmeticException",
        "int writeLot(int) NoSuchElementException",
        "int writeRaws()",
        "char lineAt(int) IndexOutOfBoundsException",
        "boolean isConsistent()",
        "int type(char) IllegalArgumentException,IllegalStateException",
        "int clearText()",
        "int execute() IllegalArgumentException,IllegalStateException",
        "int errorPosition() NoSuchElementException",
        "int failedCommand() NoSuchElementException",
        "int undo() IllegalStateException",
        "int save()",
        "int restore() IllegalStateException",
    };

    private final Check check = new Check();

    public static void main(String[] args) {
        FaceTest test = new FaceTest();
        test.theFace();
        test.nothingElseIsSeen();
        test.namesOfTheFaceStandOnce();
        test.insideClasses();
        test.check.finish();
    }

    private static String names(Class<?>[] types) {
        return String.join(",", Arrays.stream(types).map(Class::getSimpleName).toList());
    }

    private static String told(Method method) {
        String told = method.getReturnType().getSimpleName() + " " + method.getName() + "("
                + names(method.getParameterTypes()) + ")";
        String thrown = names(method.getExceptionTypes());
        return thrown.isEmpty() ? told : told + " " + thrown;
    }

    private void theFace() {
        Set<String> got = new TreeSet<>();
        for (Method method : JarCannery.class.getDeclaredMethods()) {
            if (Modifier.isPublic(method.getModifiers())) {
                got.add(told(method));
            }
        }
        check.due("the face", new TreeSet<>(Arrays.asList(FACE)), () -> got);
        check.due("public and final", Modifier.PUBLIC | Modifier.FINAL, JarCannery.class::getModifiers);
        check.due("one constructor", 1, () -> JarCannery.class.getConstructors().length);
    }

    private void nothingElseIsSeen() {
        for (Method method : JarCannery.class.getDeclaredMethods()) {
            int modifiers = method.getModifiers();
            check.due(method.getName() + " is public or private", true,
                    () -> Modifier.isPublic(modifiers) || Modifier.isPrivate(modifiers));
        }
        for (Field field : JarCannery.class.getDeclaredFields()) {
            check.due(field.getName() + " is private", true, () -> Modifier.isPrivate(field.getModifiers()));
        }
        for (Constructor<?> constructor : JarCannery.class.getDeclaredConstructors()) {
            check.due("the constructor is public", true, () -> Modifier.isPublic(constructor.getModifiers()));
        }
    }

    private void namesOfTheFaceStandOnce() {
        Set<String> face = new TreeSet<>();
        for (String told : FACE) {
            face.add(told.substring(told.indexOf(' ') + 1, told.indexOf('(')));
        }
        for (Class<?> inside : JarCannery.class.getDeclaredClasses()) {
            for (Method method : inside.getDeclaredMethods()) {
                check.due(inside.getSimpleName() + "." + method.getName() + " bears a public name", false,
                        () -> face.contains(method.getName()));
            }
        }
    }

    private void insideClasses() {
        check.due("some twelve classes", true, () -> JarCannery.class.getDeclaredClasses().length <= 12);
        for (Class<?> inside : JarCannery.class.getDeclaredClasses()) {
            check.due(inside.getSimpleName() + " is static", true, () -> Modifier.isStatic(inside.getModifiers()));
            check.due(inside.getSimpleName() + " is not public", false,
                    () -> Modifier.isPublic(inside.getModifiers()) || Modifier.isProtected(inside.getModifiers()));
            for (Field field : inside.getDeclaredFields()) {
                check.due(inside.getSimpleName() + "." + field.getName() + " is final or no static", true,
                        () -> Modifier.isFinal(field.getModifiers()) || !Modifier.isStatic(field.getModifiers()));
            }
        }
    }
}
