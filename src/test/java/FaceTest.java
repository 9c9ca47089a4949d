import java.io.IOException;
import java.lang.reflect.Constructor;
import java.lang.reflect.Field;
import java.lang.reflect.Member;
import java.lang.reflect.Method;
import java.lang.reflect.Modifier;
import java.lang.reflect.Parameter;
import java.nio.file.Files;
import java.nio.file.Path;
import java.util.Set;
import java.util.TreeSet;

/** The public face, and the rules 1, 5 and 11 of LANGUAGE.md as far as the compiled class tells them. */
public final class FaceTest {
    private static final Path DOCUMENT = Path.of("../shared/DOC.md");
    private static final Checks CHECKS = new Checks("FaceTest");

    public static void main(String[] args) throws IOException {
        Class<?> face = NumberSetDesk.class;
        CHECKS.due("the modifiers", Modifier.PUBLIC | Modifier.FINAL, face.getModifiers());
        CHECKS.due("the package", "", face.getPackageName());
        CHECKS.due("the class above", "java.lang.Object", face.getSuperclass().getName());
        CHECKS.due("the interfaces", 0, face.getInterfaces().length);
        document();
        calls(face);
        constructors(face);
        fields(face);
        classesInside(face);
        CHECKS.end();
    }

    /** What this test looks for is what the document says. */
    private static void document() throws IOException {
        if (!Files.isReadable(DOCUMENT)) {
            System.out.println("the document is not there, so its face is not compared");
            return;
        }
        StringBuilder want = new StringBuilder("public final class NumberSetDesk {\n");
        want.append("    public static final int NONE = -1;\n    public NumberSetDesk();\n");
        for (String call : Face.CALLS) {
            want.append("    public ").append(call).append(";\n");
        }
        CHECKS.due("the document has this face", true, Files.readString(DOCUMENT).contains(want.append("}\n")));
    }

    private static void calls(Class<?> face) {
        Set<String> want = new TreeSet<>();
        Set<String> publicNames = new TreeSet<>();
        for (String call : Face.CALLS) {
            want.add(call.replaceAll("(int|long|boolean) \\w+([,)])", "$1$2"));
            publicNames.add(Face.nameOf(call));
        }
        Set<String> got = new TreeSet<>();
        for (Method method : face.getDeclaredMethods()) {
            if (Modifier.isPrivate(method.getModifiers())) {
                CHECKS.due(method.getName() + " is no public name", false, publicNames.contains(method.getName()));
            } else {
                CHECKS.due(method + " is public, no more", Modifier.PUBLIC, method.getModifiers());
                got.add(written(method));
            }
            CHECKS.due(method + " has at most seven parameters", true, method.getParameterCount() <= 7);
        }
        CHECKS.due("the calls", want.toString(), got.toString());
    }

    private static String written(Method method) {
        StringBuilder text = new StringBuilder(method.getReturnType().getName() + " " + method.getName() + "(");
        for (Parameter parameter : method.getParameters()) {
            text.append(text.charAt(text.length() - 1) == '(' ? "" : ", ").append(parameter.getType().getName());
        }
        text.append(')');
        String between = " throws ";
        for (Class<?> kind : method.getExceptionTypes()) {
            text.append(between).append(kind.getSimpleName());
            between = ", ";
        }
        return text.toString();
    }

    private static void constructors(Class<?> face) {
        Constructor<?>[] constructors = face.getDeclaredConstructors();
        CHECKS.due("the constructors", 1, constructors.length);
        CHECKS.due("the constructor's modifiers", Modifier.PUBLIC, constructors[0].getModifiers());
        CHECKS.due("the constructor's parameters", 0, constructors[0].getParameterCount());
        CHECKS.due("the constructor's exceptions", 0, constructors[0].getExceptionTypes().length);
    }

    private static void fields(Class<?> face) {
        for (Field field : face.getDeclaredFields()) {
            boolean isConstant = field.getName().equals("NONE");
            CHECKS.due(field + " is private", !isConstant, Modifier.isPrivate(field.getModifiers()));
            staticIsFinal(field);
            if (isConstant) {
                CHECKS.due("NONE's type", "int", field.getType().getName());
                CHECKS.due("NONE's modifiers", Modifier.PUBLIC | Modifier.STATIC | Modifier.FINAL, field.getModifiers());
            }
        }
    }

    private static void classesInside(Class<?> face) {
        Class<?>[] inside = face.getDeclaredClasses();
        CHECKS.due("at most twelve classes", true, inside.length < 12);
        for (Class<?> one : inside) {
            int modifiers = one.getModifiers();
            CHECKS.due(one + " is static", true, Modifier.isStatic(modifiers));
            CHECKS.due(one + " shows outside", false, Modifier.isPublic(modifiers) || Modifier.isProtected(modifiers));
            for (Field field : one.getDeclaredFields()) {
                staticIsFinal(field);
            }
            for (Member member : one.getDeclaredMethods()) {
                boolean isOfObjects = Set.of("equals", "hashCode", "toString").contains(member.getName());
                CHECKS.due(member + " is one of all objects", false, isOfObjects);
            }
        }
    }

    private static void staticIsFinal(Field field) {
        int modifiers = field.getModifiers();
        CHECKS.due(field + " is static and can change", false, Modifier.isStatic(modifiers) && !Modifier.isFinal(modifiers));
    }
}
