import java.io.IOException;
import java.lang.reflect.Field;
import java.lang.reflect.Method;
import java.lang.reflect.Modifier;
import java.nio.file.Files;
import java.nio.file.Path;
import java.util.ArrayList;
import java.util.Arrays;
import java.util.HashSet;
import java.util.List;
import java.util.Set;
import java.util.regex.Matcher;
import java.util.regex.Pattern;

/** What of LANGUAGE.md can be seen without running: each method bears the number of its rule. */
public final class LanguageTest {

    private static final Due DUE = new Due("LanguageTest");
    private static final Class<?> FACE = ImageReader.class;

    /** Without comments and written texts, which may hold any word. */
    private static String source;

    public static void main(String[] args) throws IOException {
        source = Files.readString(Path.of("src/main/java/ImageReader.java"))
            .replaceAll("(?s)/\\*.*?\\*/", "").replaceAll("//.*", "")
            .replaceAll("\"[^\"]*\"", "\"\"");
        rule1NamesAndSight();
        rule2ClassesInside();
        rules3And4TheLibrary();
        rule5StaticFields();
        rule6Exceptions();
        rule11Sizes();
        rule13NothingFromOutside();
        DUE.end();
    }

    private static List<Class<?>> classes() {
        List<Class<?>> all = new ArrayList<>(Arrays.asList(FACE.getDeclaredClasses()));
        all.add(0, FACE);
        return all;
    }

    private static void has(boolean wanted, String what, String pattern) {
        DUE.is("the source has " + what, Pattern.compile(pattern).matcher(source).find(), wanted);
    }

    /** "No private method bears the name of a public one." */
    private static void rule1NamesAndSight() {
        has(false, "a package line", "(?m)^package ");
        Set<String> names = new HashSet<>();
        for (Method method : FACE.getDeclaredMethods()) {
            if (Modifier.isPublic(method.getModifiers())) {
                names.add(method.getName());
            }
        }
        for (Class<?> type : classes()) {
            for (Method method : type.getDeclaredMethods()) {
                DUE.isTrue(method + " has a name of its own",
                    Modifier.isPublic(method.getModifiers()) || !names.contains(method.getName()));
            }
        }
    }

    /** "the classes inside it, which are private or package-visible and static"; "no lambda". */
    private static void rule2ClassesInside() {
        for (Class<?> type : FACE.getDeclaredClasses()) {
            int modifiers = type.getModifiers();
            DUE.isTrue(type + " is static", Modifier.isStatic(modifiers));
            DUE.isTrue(type + " is not seen from outside",
                !Modifier.isPublic(modifiers) && !Modifier.isProtected(modifiers));
        }
        has(false, "a lambda", "->");
        has(false, "a method reference", "::");
    }

    private static void rules3And4TheLibrary() {
        Matcher imports = Pattern.compile("(?m)^import (.*);").matcher(source);
        while (imports.find()) {
            DUE.isTrue(imports.group() + " is listed", imports.group(1)
                .matches("java\\.util\\.(Arrays|ArrayList|List|Iterator|NoSuchElementException)"));
        }
        has(false, "a function that ends in Exact", "Exact *\\(");
        has(false, "doubles or floats", "\\b(double|float)\\b");
        has(false, "a library's name written out", "\\bjavax?\\.(?!util\\.\\w+;)");
        has(false, "more of System than arraycopy", "\\bSystem\\.(?!arraycopy\\b)");
        has(false, "more of Arrays than is listed", "\\bArrays\\.(?!copyOf\\b|copyOfRange\\b|fill\\b)");
    }

    /** "Static fields are final: constants of int, long, boolean, char or String, .. arrays". */
    private static void rule5StaticFields() {
        Set<Class<?>> types = Set.of(int.class, long.class, boolean.class, char.class, String.class,
            int[].class, long[].class, char[].class, byte[].class);
        for (Class<?> type : classes()) {
            for (Field field : type.getDeclaredFields()) {
                if (Modifier.isStatic(field.getModifiers())) {
                    DUE.isTrue(field + " is final", Modifier.isFinal(field.getModifiers()));
                    DUE.isTrue(field + " is of such a type", types.contains(field.getType()));
                }
            }
        }
        has(false, "a static initialiser", "\\bstatic\\s*\\{");
    }

    /** "throw new E() or throw new E("a written text")"; nothing that the machine throws is caught. */
    private static void rule6Exceptions() {
        String listed = "(IllegalState|IllegalArgument|IndexOutOfBounds|Arithmetic"
            + "|UnsupportedOperation|NoSuchElement|Runtime)Exception";
        has(true, "a throw", "\\bthrow\\b");
        has(false, "a throw of another form", "\\bthrow\\b(?! new " + listed + "\\((\"\")?\\);)");
        has(false, "a catch", "\\bcatch\\b");
        has(false, "a word that is ruled out", "\\b(finally|synchronized|assert|native|volatile)\\b");
        has(false, "a call that is ruled out", "\\b(equals|hashCode|toString|getMessage)\\b");
    }

    /** "at most seven parameters", "some sixty lines", "twelve classes", "twenty fields". */
    private static void rule11Sizes() {
        DUE.isTrue("there are twelve classes at most", classes().size() <= 12);
        for (Class<?> type : classes()) {
            int fields = 0;
            for (Field field : type.getDeclaredFields()) {
                fields += Modifier.isStatic(field.getModifiers()) ? 0 : 1;
            }
            DUE.isTrue(type + " has twenty fields at most", fields <= 20);
            for (Method method : type.getDeclaredMethods()) {
                DUE.isTrue(method + " takes seven parameters at most",
                    method.getParameterCount() <= 7);
            }
        }
        Matcher methods = Pattern
            .compile("(?ms)^( {4,8})(?:public|private)[^;{}=(]*\\([^;{}=]*\\{\n.*?^\\1\\}$")
            .matcher(source);
        int seen = 0;
        while (methods.find()) {
            seen++;
            DUE.isTrue(methods.group().lines().findFirst().orElse("") + " is short",
                methods.group().lines().count() <= 60);
        }
        DUE.isTrue(seen + " methods are seen, enough", seen > 60);
    }

    /** "No clock, no randomness, no file, network, thread or environment". */
    private static void rule13NothingFromOutside() {
        has(false, "anything from outside", "\\b(Thread|Runtime|Random|random|Process|Class)\\b(?!Ex)");
    }
}
