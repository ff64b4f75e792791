import java.lang.reflect.Constructor;
import java.lang.reflect.Field;
import java.lang.reflect.Method;
import java.lang.reflect.Modifier;
import java.util.Set;
import java.util.TreeSet;

/**
 * The public face: every constant with its value, the constructor and every method with its types, as the
 * document writes them out, and no other.
 */
public final class FaceTest {
    private static final Class<?> GRID = ShareGrid.class;

    private final Set<String> found = new TreeSet<>();
    private final Set<String> methodNames = new TreeSet<>();

    private FaceTest() {
    }

    public static void main(String[] args) throws IllegalAccessException {
        FaceTest test = new FaceTest();
        test.findConstants();
        test.findConstructors();
        test.findMethods();
        test.compareWithTheDocument();
        test.lookAtPrivateNames();
        Due.finish();
    }

    private void findConstants() throws IllegalAccessException {
        for (Field field : GRID.getDeclaredFields()) {
            int modifiers = field.getModifiers();
            boolean isConstant = Modifier.isStatic(modifiers) && Modifier.isFinal(modifiers);
            if (!Modifier.isPrivate(modifiers)) {
                Due.due(field + " is a public constant", isConstant && Modifier.isPublic(modifiers));
                String value = isConstant ? " = " + field.get(null) : "";
                found.add(field.getType() + " " + field.getName() + value);
            } else if (Modifier.isStatic(modifiers)) {
                Due.due(field + " is final", isConstant);
            }
        }
    }

    private void findConstructors() {
        for (Constructor<?> constructor : GRID.getDeclaredConstructors()) {
            found.add("ShareGrid" + types(constructor.getParameterTypes()));
            Due.due(constructor + " is public", Modifier.isPublic(constructor.getModifiers()));
        }
    }

    private void findMethods() {
        for (Method method : GRID.getDeclaredMethods()) {
            if (!Modifier.isPrivate(method.getModifiers())) {
                String name = method.getName();
                methodNames.add(name);
                found.add(method.getReturnType() + " " + name + types(method.getParameterTypes()));
                Due.due(method + " is public", Modifier.isPublic(method.getModifiers()));
                Due.due(method + " is no static one", !Modifier.isStatic(method.getModifiers()));
            }
        }
    }

    private static String types(Class<?>[] types) {
        StringBuilder text = new StringBuilder("(");
        for (Class<?> type : types) {
            text.append(text.length() > 1 ? "," : "").append(type);
        }
        return text.append(")").toString();
    }

    private void compareWithTheDocument() {
        Set<String> face = faceOfTheDocument();
        Due.due("members that the document writes out", face.size(), 5 + 1 + 17);
        Due.due("found " + found + ", the document has " + face, found.equals(face));
        Due.due("the class is public and final",
                Modifier.isPublic(GRID.getModifiers()) && Modifier.isFinal(GRID.getModifiers()));
    }

    /** Its members in the form in which they are found: without modifiers and names of parameters. */
    private static Set<String> faceOfTheDocument() {
        Set<String> face = new TreeSet<>();
        for (String line : Sentences.section("The public face").split("\n")) {
            if (line.startsWith("    public ")) {
                face.add(line.strip()
                        .replaceAll("public |static |final |L?;$", "")
                        .replaceAll("(\\w+) \\w+(?=[,)])", "$1")
                        .replace(", ", ","));
            }
        }
        return face;
    }

    private void lookAtPrivateNames() {
        checkPrivateNames(GRID);
        for (Class<?> inside : GRID.getDeclaredClasses()) {
            Due.due(inside + " is static", Modifier.isStatic(inside.getModifiers()));
            Due.due(inside + " is not public", !Modifier.isPublic(inside.getModifiers()));
            Due.due(inside + " is not protected", !Modifier.isProtected(inside.getModifiers()));
            checkPrivateNames(inside);
        }
    }

    private void checkPrivateNames(Class<?> of) {
        for (Method method : of.getDeclaredMethods()) {
            Due.due(method + " bears no name of the face",
                    Modifier.isPublic(method.getModifiers()) || !methodNames.contains(method.getName()));
        }
    }
}
