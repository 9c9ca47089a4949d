import java.lang.reflect.Constructor;
import java.lang.reflect.Field;
import java.lang.reflect.Member;
import java.lang.reflect.Method;
import java.lang.reflect.Modifier;
import java.lang.reflect.Parameter;
import java.util.Set;
import java.util.TreeSet;

/** The public face, and the rules 1, 5 and 11 of LANGUAGE.md as far as the compiled class tells them. */
public final class FaceTest {
    private static final String[] CALLS = {
        "int append(int a, int b, int c, int d, int e) throws IllegalStateException",
        "int clearTape()",
        "int run() throws IllegalArgumentException",
        "int errorPosition()",
        "int stoppedAt()",
        "boolean add(int set, int index) throws IllegalArgumentException, IndexOutOfBoundsException",
        "boolean remove(int set, int index) throws IllegalArgumentException, IndexOutOfBoundsException",
        "boolean put(int set, int index, boolean isMember) throws IllegalArgumentException, IndexOutOfBoundsException",
        "boolean flip(int set, int index) throws IllegalArgumentException, IndexOutOfBoundsException",
        "int addRange(int set, int from, int to) throws IllegalArgumentException, IndexOutOfBoundsException",
        "int removeRange(int set, int from, int to) throws IllegalArgumentException, IndexOutOfBoundsException",
        "int putRange(int set, int from, int to, boolean isMember) throws IllegalArgumentException, IndexOutOfBoundsException",
        "int flipRange(int set, int from, int to) throws IllegalArgumentException, IndexOutOfBoundsException",
        "int removeAll(int set) throws IllegalArgumentException",
        "int renew(int set, int numbers) throws IllegalArgumentException",
        "int intersect(int set, int other) throws IllegalArgumentException",
        "int unite(int set, int other) throws IllegalArgumentException",
        "int differ(int set, int other) throws IllegalArgumentException",
        "int subtract(int set, int other) throws IllegalArgumentException",
        "int copy(int set, int other) throws IllegalArgumentException",
        "int takePart(int set, int other, int from, int to) throws IllegalArgumentException, IndexOutOfBoundsException",
        "int shift(int set, int by) throws IllegalArgumentException",
        "int sieve(int set, int below) throws IllegalArgumentException",
        "int loadWords(int set, long first, long second, long third) throws IllegalArgumentException",
        "int loadTape(int set) throws IllegalArgumentException, IllegalStateException",
        "int wordCount(int set) throws IllegalArgumentException",
        "long wordAt(int set, int place) throws IllegalArgumentException, IndexOutOfBoundsException",
        "int byteCount(int set) throws IllegalArgumentException",
        "int byteAt(int set, int place) throws IllegalArgumentException, IndexOutOfBoundsException",
        "int fingerprint(int set) throws IllegalArgumentException",
        "boolean has(int set, int index) throws IllegalArgumentException, IndexOutOfBoundsException",
        "int count(int set) throws IllegalArgumentException",
        "int countIn(int set, int from, int to) throws IllegalArgumentException, IndexOutOfBoundsException",
        "int length(int set) throws IllegalArgumentException",
        "boolean isEmpty(int set) throws IllegalArgumentException",
        "boolean isRoomy(int set) throws IllegalArgumentException",
        "int next(int set, int index) throws IllegalArgumentException, IndexOutOfBoundsException",
        "int nextMissing(int set, int index) throws IllegalArgumentException, IndexOutOfBoundsException",
        "int previous(int set, int index) throws IllegalArgumentException, IndexOutOfBoundsException",
        "int previousMissing(int set, int index) throws IllegalArgumentException, IndexOutOfBoundsException",
        "int memberAt(int set, int place) throws IllegalArgumentException",
        "long sum(int set) throws IllegalArgumentException",
        "int runs(int set) throws IllegalArgumentException",
        "int longestRun(int set) throws IllegalArgumentException",
        "boolean areEqual(int set, int other) throws IllegalArgumentException",
        "boolean meet(int set, int other) throws IllegalArgumentException",
        "boolean isWithin(int set, int other) throws IllegalArgumentException",
        "int unionCount(int set, int other) throws IllegalArgumentException",
        "int distance(int set, int other) throws IllegalArgumentException",
        "int firstCommon(int set, int other) throws IllegalArgumentException",
        "int write(int set) throws IllegalArgumentException",
        "int writtenAt(int index) throws IndexOutOfBoundsException",
        "int refusals()",
        "double meanCount()",
        "float share(int set, int below) throws IllegalArgumentException",
        "int errors()"
    };
    private static final Checks CHECKS = new Checks("FaceTest");

    public static void main(String[] args) {
        Class<?> face = NumberSetDesk.class;
        CHECKS.due("the modifiers", Modifier.PUBLIC | Modifier.FINAL, face.getModifiers());
        CHECKS.due("the package", "", face.getPackageName());
        calls(face);
        constructors(face);
        fields(face);
        classesInside(face);
        CHECKS.end();
    }

    private static void calls(Class<?> face) {
        Set<String> want = new TreeSet<>();
        Set<String> publicNames = new TreeSet<>();
        for (String call : CALLS) {
            want.add(call.replaceAll("(int|long|boolean) \\w+([,)])", "$1$2"));
            publicNames.add(call.replaceAll("^\\w+ (\\w+).*", "$1"));
        }
        Set<String> got = new TreeSet<>();
        for (Method method : face.getDeclaredMethods()) {
            if (Modifier.isPrivate(method.getModifiers())) {
                CHECKS.due(method.getName() + " is no public name", false, publicNames.contains(method.getName()));
            } else {
                CHECKS.due(method + " is public, no more", Modifier.PUBLIC, method.getModifiers());
                got.add(written(method));
            }
            CHECKS.due(method + " has at most seven parameters", true, method.getParameterCount() <= 7);
        }
        CHECKS.due("the calls", want.toString(), got.toString());
    }

    private static String written(Method method) {
        StringBuilder text = new StringBuilder(method.getReturnType().getName() + " " + method.getName() + "(");
        for (Parameter parameter : method.getParameters()) {
            text.append(text.charAt(text.length() - 1) == '(' ? "" : ", ").append(parameter.getType().getName());
        }
        text.append(')');
        String between = " throws ";
        for (Class<?> kind : method.getExceptionTypes()) {
            text.append(between).append(kind.getSimpleName());
            between = ", ";
        }
        return text.toString();
    }

    private static void constructors(Class<?> face) {
        Constructor<?>[] constructors = face.getDeclaredConstructors();
        CHECKS.due("the constructors", 1, constructors.length);
        CHECKS.due("the constructor's modifiers", Modifier.PUBLIC, constructors[0].getModifiers());
        CHECKS.due("the constructor's parameters", 0, constructors[0].getParameterCount());
        CHECKS.due("the constructor's exceptions", 0, constructors[0].getExceptionTypes().length);
    }

    private static void fields(Class<?> face) {
        for (Field field : face.getDeclaredFields()) {
            boolean isConstant = field.getName().equals("NONE");
            CHECKS.due(field + " is private", !isConstant, Modifier.isPrivate(field.getModifiers()));
            staticIsFinal(field);
            if (isConstant) {
                CHECKS.due("NONE's type", "int", field.getType().getName());
                CHECKS.due("NONE's modifiers", Modifier.PUBLIC | Modifier.STATIC | Modifier.FINAL, field.getModifiers());
            }
        }
    }

    private static void classesInside(Class<?> face) {
        Class<?>[] inside = face.getDeclaredClasses();
        CHECKS.due("at most twelve classes", true, inside.length < 12);
        for (Class<?> one : inside) {
            int modifiers = one.getModifiers();
            CHECKS.due(one + " is static", true, Modifier.isStatic(modifiers));
            CHECKS.due(one + " shows outside", false, Modifier.isPublic(modifiers) || Modifier.isProtected(modifiers));
            for (Field field : one.getDeclaredFields()) {
                staticIsFinal(field);
            }
            for (Member member : one.getDeclaredMethods()) {
                boolean isOfObjects = Set.of("equals", "hashCode", "toString").contains(member.getName());
                CHECKS.due(member + " is one of all objects", false, isOfObjects);
            }
        }
    }

    private static void staticIsFinal(Field field) {
        int modifiers = field.getModifiers();
        CHECKS.due(field + " is static and can change", false, Modifier.isStatic(modifiers) && !Modifier.isFinal(modifiers));
    }
}
