import java.lang.reflect.Constructor;
import java.lang.reflect.Field;
import java.lang.reflect.Method;
import java.lang.reflect.Modifier;
import java.util.ArrayList;
import java.util.Collections;
import java.util.HashSet;
import java.util.List;
import java.util.Set;

/** The class has the face of the document and nothing else that can be seen. */
final class FaceTests {
    private static final String[] FACE = {
        "int addStreet(int,int) IllegalArgumentException IllegalStateException",
        "int addPlow(int,int) IllegalArgumentException IllegalStateException",
        "int addStop(int,int) IndexOutOfBoundsException IllegalStateException",
        "int clearRoute(int) IndexOutOfBoundsException",
        "int exchange(int,int) IndexOutOfBoundsException IllegalStateException",
        "int setTerms(int,int,int,int) IndexOutOfBoundsException IllegalArgumentException",
        "int setSpread(int) IllegalArgumentException",
        "int deliver(int) IllegalArgumentException IllegalStateException",
        "int run(int,int,int) IllegalArgumentException IllegalStateException",
        "int value(int) IllegalArgumentException",
        "int street(int,int) IndexOutOfBoundsException IllegalArgumentException",
        "int plow(int,int) IndexOutOfBoundsException IllegalArgumentException",
        "int stop(int,int) IndexOutOfBoundsException",
        "int terms(int,int) IndexOutOfBoundsException IllegalArgumentException",
        "double meanDepth()",
        "int creditsIn(int,int,int) IllegalArgumentException",
        "int bestExchange(int,int,int,int) IndexOutOfBoundsException IllegalArgumentException",
        "int leastSpeed(int,int,int,int) IndexOutOfBoundsException IllegalArgumentException",
        "int emptyIn(int,int) IllegalArgumentException",
        "int append(int) IllegalArgumentException IllegalStateException",
        "int clearText()",
        "int runText() IllegalStateException",
        "int undo() IllegalStateException",
        "long digest()",
    };

    static void runAll() {
        Check.promise(0);
        Class<?> face = SnowRounds.class;
        Check.equal("the class", Modifier.toString(face.getModifiers()), "public final");
        methods(face);
        constructors(face);
        fields(face);
        for (Class<?> inner : face.getDeclaredClasses()) {
            int modifiers = inner.getModifiers();
            Check.isTrue(inner + " is static", Modifier.isStatic(modifiers) || inner.isInterface());
            Check.isTrue(inner + " is not seen",
                    !Modifier.isPublic(modifiers) && !Modifier.isProtected(modifiers));
            hasOwnNames(inner);
        }
    }

    private static void methods(Class<?> face) {
        List<String> got = new ArrayList<>();
        Set<String> hidden = new HashSet<>();
        for (Method method : face.getDeclaredMethods()) {
            if (Modifier.isPrivate(method.getModifiers())) {
                hidden.add(method.getName());
            } else {
                got.add(described(method));
            }
        }
        List<String> want = new ArrayList<>(List.of(FACE));
        Collections.sort(got);
        Collections.sort(want);
        Check.equal("the methods that can be seen", got, want);
        for (String name : hidden) {
            Check.isTrue("no private method is called " + name, !isOfFace(name));
        }
    }

    private static void hasOwnNames(Class<?> inner) {
        for (Method method : inner.getDeclaredMethods()) {
            Check.isTrue("no method inside is called " + method.getName(), !isOfFace(method.getName()));
        }
    }

    private static boolean isOfFace(String name) {
        for (String line : FACE) {
            if (line.contains(" " + name + "(")) {
                return true;
            }
        }
        return false;
    }

    private static String described(Method method) {
        StringBuilder out = new StringBuilder();
        if (Modifier.isStatic(method.getModifiers())) {
            out.append("static ");
        }
        out.append(method.getReturnType().getSimpleName()).append(' ').append(method.getName()).append('(');
        String comma = "";
        for (Class<?> parameter : method.getParameterTypes()) {
            out.append(comma).append(parameter.getSimpleName());
            comma = ",";
        }
        out.append(')');
        for (Class<?> thrown : method.getExceptionTypes()) {
            out.append(' ').append(thrown.getSimpleName());
        }
        return out.toString();
    }

    private static void constructors(Class<?> face) {
        Constructor<?>[] all = face.getDeclaredConstructors();
        Check.equal("constructors", all.length, 1);
        Check.equal("the constructor", all[0].toString(), "public SnowRounds()");
    }

    private static void fields(Class<?> face) {
        for (Field field : face.getDeclaredFields()) {
            int modifiers = field.getModifiers();
            if (field.getName().equals("NONE")) {
                Check.equal("NONE", field.toString(), "public static final int SnowRounds.NONE");
            } else {
                Check.isTrue(field + " is private", Modifier.isPrivate(modifiers));
            }
            Check.isTrue(field + " is no static state",
                    !Modifier.isStatic(modifiers) || Modifier.isFinal(modifiers));
        }
    }

    private FaceTests() {
    }
}
