import java.lang.reflect.Constructor;
import java.lang.reflect.Field;
import java.lang.reflect.Method;
import java.lang.reflect.Modifier;
import java.util.Set;
import java.util.TreeSet;

/** The public face: every constant, constructor and method of the document, and no other. */
public final class FaceTest {
    private static final Set<String> FACE = Set.of(
            "DONE int", "REFUSED int", "FULL int", "LOST int", "NONE long",
            "ShareGrid(int,int)",
            "int key(int,int)", "int create(int)", "int draft(int,int)", "int write(int)", "int read(int)",
            "long word(int)", "int sound(int)", "int best(int)", "int repair(int)",
            "int server(int,boolean,boolean)", "int tamper(int,int,int,int)", "int picture(int,int)",
            "int fallBack(int,int)", "int wipe(int,int)", "long share(int,int,int)", "int times(int,int)",
            "int count(int)");

    private FaceTest() {
    }

    public static void main(String[] args) {
        Set<String> found = new TreeSet<>();
        Set<String> faceNames = new TreeSet<>();
        Class<?> grid = ShareGrid.class;
        for (Field field : grid.getDeclaredFields()) {
            if (!Modifier.isPrivate(field.getModifiers())) {
                found.add(field.getName() + " " + field.getType());
                Due.due(field + " is a public constant", isPublicConstant(field));
            } else if (Modifier.isStatic(field.getModifiers())) {
                Due.due(field + " is final", Modifier.isFinal(field.getModifiers()));
            }
        }
        for (Constructor<?> constructor : grid.getDeclaredConstructors()) {
            found.add("ShareGrid" + types(constructor.getParameterTypes()));
            Due.due(constructor + " is public", Modifier.isPublic(constructor.getModifiers()));
        }
        for (Method method : grid.getDeclaredMethods()) {
            if (!Modifier.isPrivate(method.getModifiers())) {
                found.add(method.getReturnType() + " " + method.getName() + types(method.getParameterTypes()));
                faceNames.add(method.getName());
                Due.due(method + " is public", Modifier.isPublic(method.getModifiers()));
                Due.due(method + " is no static one", !Modifier.isStatic(method.getModifiers()));
            }
        }
        Due.due("found " + found + ", the document's face", found.equals(new TreeSet<>(FACE)));
        Due.due("the class is public and final",
                Modifier.isPublic(grid.getModifiers()) && Modifier.isFinal(grid.getModifiers()));
        lookAtPrivateNames(faceNames);
        lookAtValues();
        Due.finish();
    }

    private static boolean isPublicConstant(Field field) {
        int modifiers = field.getModifiers();
        return Modifier.isPublic(modifiers) && Modifier.isStatic(modifiers) && Modifier.isFinal(modifiers);
    }

    private static String types(Class<?>[] types) {
        StringBuilder text = new StringBuilder("(");
        for (Class<?> type : types) {
            text.append(text.length() > 1 ? "," : "").append(type);
        }
        return text.append(")").toString();
    }

    private static void lookAtPrivateNames(Set<String> faceNames) {
        checkPrivateNames(ShareGrid.class, faceNames);
        for (Class<?> inside : ShareGrid.class.getDeclaredClasses()) {
            Due.due(inside + " is static", Modifier.isStatic(inside.getModifiers()));
            Due.due(inside + " is not public", !Modifier.isPublic(inside.getModifiers()));
            Due.due(inside + " is not protected", !Modifier.isProtected(inside.getModifiers()));
            checkPrivateNames(inside, faceNames);
        }
    }

    private static void checkPrivateNames(Class<?> of, Set<String> faceNames) {
        for (Method method : of.getDeclaredMethods()) {
            Due.due(method + " bears no name of the face",
                    Modifier.isPublic(method.getModifiers()) || !faceNames.contains(method.getName()));
        }
    }

    private static void lookAtValues() {
        Due.due("DONE", ShareGrid.DONE, 0);
        Due.due("REFUSED", ShareGrid.REFUSED, -1);
        Due.due("FULL", ShareGrid.FULL, -2);
        Due.due("LOST", ShareGrid.LOST, -3);
        Due.due("NONE", ShareGrid.NONE, -1000000000000L);
    }
}
