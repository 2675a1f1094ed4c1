import java.lang.reflect.Constructor;
import java.lang.reflect.Field;
import java.lang.reflect.Method;
import java.lang.reflect.Modifier;
import java.util.Arrays;
import java.util.Set;
import java.util.TreeSet;

/** The public face of the document, and rules 1 and 5 of LANGUAGE.md. */
public final class FaceTest {
    private static final String[] FACE = {
        "void register(int,int,int) IllegalArgumentException,IllegalStateException",
        "int ask(int,int,int) IllegalArgumentException,IllegalStateException",
        "int retry(int,int) IllegalArgumentException,IllegalStateException",
        "int deliver(int) IllegalArgumentException",
        "int drop(int) IllegalArgumentException",
        "boolean copy(int) IllegalArgumentException",
        "int deliverAll(int) IllegalArgumentException",
        "boolean up(int,boolean) IllegalArgumentException",
        "boolean teach(int,int,int) IllegalArgumentException,IllegalStateException",
        "int pool() ",
        "int letter(int,int) IllegalArgumentException",
        "int state(int,int) IllegalArgumentException",
        "int granted(int,int,int,boolean) IllegalArgumentException",
        "int kept(int,int,int) IllegalArgumentException",
        "int live() ",
        "int total(int) IllegalArgumentException",
    };

    public static void main(String[] args) {
        Checks.due("NONE", -1, SupplyGrid.NONE);
        Checks.due("the class is public and final", Modifier.PUBLIC | Modifier.FINAL, SupplyGrid.class.getModifiers());
        Set<String> publicNames = methodsAreTheFace();
        for (Constructor<?> constructor : SupplyGrid.class.getDeclaredConstructors()) {
            Checks.due("constructor " + constructor, true,
                Modifier.isPublic(constructor.getModifiers()) && constructor.getParameterCount() == 0);
        }
        for (Field field : SupplyGrid.class.getDeclaredFields()) {
            boolean hidden = Modifier.isPrivate(field.getModifiers());
            Checks.due("field " + field, true, hidden || field.getName().equals("NONE"));
            Checks.due("field " + field, true,
                !Modifier.isStatic(field.getModifiers()) || Modifier.isFinal(field.getModifiers()));
        }
        for (Class<?> inside : SupplyGrid.class.getDeclaredClasses()) {
            Checks.due("class " + inside, true, Modifier.isPrivate(inside.getModifiers()));
            Checks.due("class " + inside, true, Modifier.isStatic(inside.getModifiers()));
            for (Method method : inside.getDeclaredMethods()) {
                Checks.due("name of " + method, false, publicNames.contains(method.getName()));
            }
        }
        Checks.end();
    }

    private static Set<String> methodsAreTheFace() {
        Set<String> found = new TreeSet<>();
        Set<String> publicNames = new TreeSet<>();
        for (Method method : SupplyGrid.class.getDeclaredMethods()) {
            if (!Modifier.isPrivate(method.getModifiers())) {
                found.add(signature(method));
                publicNames.add(method.getName());
                Checks.due("public " + method, true, Modifier.isPublic(method.getModifiers()));
                Checks.due("static " + method, false, Modifier.isStatic(method.getModifiers()));
            }
        }
        Checks.same("the face", new TreeSet<>(Arrays.asList(FACE)).toString(), found.toString());
        for (Method method : SupplyGrid.class.getDeclaredMethods()) {
            boolean hidden = Modifier.isPrivate(method.getModifiers());
            Checks.due("name of " + method, false, hidden && publicNames.contains(method.getName()));
        }
        return publicNames;
    }

    private static String signature(Method method) {
        return method.getReturnType().getSimpleName() + " " + method.getName()
            + "(" + names(method.getParameterTypes()) + ") " + names(method.getExceptionTypes());
    }

    private static String names(Class<?>[] classes) {
        StringBuilder text = new StringBuilder();
        for (Class<?> one : classes) {
            text.append(text.length() == 0 ? "" : ",").append(one.getSimpleName());
        }
        return text.toString();
    }
}
