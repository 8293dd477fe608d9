import java.lang.reflect.Constructor;
import java.lang.reflect.Field;
import java.lang.reflect.Method;
import java.lang.reflect.Modifier;
import java.util.Arrays;
import java.util.Set;
import java.util.TreeSet;

/** The public face is the document's, and nothing else of the class can be seen from outside. */
public final class FaceTest {

    private static final String[] FACE = {
        "boolean keep()", "boolean same()", "int byteAt(int, int)", "int came(int)",
        "int change(int, int)", "int classOf(int)", "int end(int)", "int field(int, int)",
        "int kind(int)", "int objects()", "int reachable()", "int read()", "int size(int)",
        "int special(int)", "int words()", "int write()", "void feed(int, int, int, int, int)"};

    public static void main(String[] args) {
        Due due = new Due("FaceTest");
        Class<?> face = ImageReader.class;
        Set<String> seen = new TreeSet<>();
        for (Method method : face.getDeclaredMethods()) {
            if (!Modifier.isPrivate(method.getModifiers())) {
                due.isTrue(method + " is public", Modifier.isPublic(method.getModifiers()));
                String parameters = Arrays.toString(method.getParameterTypes());
                seen.add(method.getReturnType() + " " + method.getName()
                    + parameters.replace('[', '(').replace(']', ')'));
            }
        }
        due.isTrue("the methods are " + seen, seen.equals(new TreeSet<>(Arrays.asList(FACE))));
        due.is("NONE", ImageReader.NONE, -1);
        exceptionsAreNamed(due);
        for (Field field : face.getDeclaredFields()) {
            boolean isPrivate = Modifier.isPrivate(field.getModifiers());
            boolean isOfTheFace = field.getName().equals("NONE");
            due.isTrue(field + " is seen as it should be", isPrivate != isOfTheFace);
            due.isTrue(field + " is no state of the class", !Modifier.isStatic(field.getModifiers())
                || Modifier.isFinal(field.getModifiers()));
        }
        Constructor<?>[] constructors = face.getDeclaredConstructors();
        due.is("constructors", constructors.length, 1);
        due.is("parameters of the constructor", constructors[0].getParameterCount(), 0);
        due.isTrue("the constructor is public", Modifier.isPublic(constructors[0].getModifiers()));
        due.isTrue("the class is public and final", Modifier.isPublic(face.getModifiers())
            && Modifier.isFinal(face.getModifiers()));
        due.end();
    }

    /** Two calls name the exception that they throw; no other call names one. */
    private static void exceptionsAreNamed(Due due) {
        for (Method method : ImageReader.class.getDeclaredMethods()) {
            String named = Arrays.toString(method.getExceptionTypes());
            String want = "[]";
            if (method.getName().equals("feed")) {
                want = "[class java.lang.IllegalStateException]";
            } else if (method.getName().equals("end")) {
                want = "[class java.lang.IllegalArgumentException]";
            }
            due.isText("what " + method.getName() + " throws", named, want);
        }
    }
}
