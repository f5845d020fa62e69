import java.lang.reflect.Constructor;
import java.lang.reflect.Field;
import java.lang.reflect.Method;
import java.lang.reflect.Modifier;
import java.util.Arrays;
import java.util.TreeSet;

/** LANGUAGE.md's rule 1: the class has the document's face and nothing else that others can reach. */
public final class FaceTest {
    private static final String[] FACE = {
        "int addGood(int)", "int move(int,int)", "void delete(int)", "int addPart(int,int,int)",
        "int setDiscount(int,int)", "int draft(int,int,int,int,int,int)", "boolean approve(int)",
        "boolean reject(int)", "int pass(int)", "int value(int,int,int,int)", "int origin(int,int,int,int)",
        "int told(int)", "boolean toggleAsked(int,int)", "int missing(int,int,int)", "int complete(int)",
        "int price(int,int)", "int changed(int)", "int feed(int)"
    };

    public static void main(String[] args) {
        Check.promise("the public face");
        Check.due("public final", "the class", () -> Modifier.toString(ShopHub.class.getModifiers()));
        Check.due(new TreeSet<>(Arrays.asList(FACE)), "the methods", FaceTest::reachableMethods);
        Check.due("[public ShopHub()]", "the constructors", FaceTest::reachableConstructors);
        Check.due("[]", "the fields", FaceTest::reachableFields);
        Check.end();
    }

    private static Object reachableMethods() {
        TreeSet<String> found = new TreeSet<>();
        for (Method method : ShopHub.class.getDeclaredMethods()) {
            if (!Modifier.isPrivate(method.getModifiers())) {
                String modifiers = Modifier.toString(method.getModifiers());
                found.add((modifiers.equals("public") ? "" : modifiers + " ") + signature(method));
            }
        }
        return found;
    }

    private static String signature(Method method) {
        StringBuilder text = new StringBuilder();
        for (Class<?> type : method.getParameterTypes()) {
            text.append(text.length() == 0 ? "" : ",").append(type.getName());
        }
        return method.getReturnType().getName() + " " + method.getName() + "(" + text + ")";
    }

    private static Object reachableConstructors() {
        TreeSet<String> found = new TreeSet<>();
        for (Constructor<?> constructor : ShopHub.class.getDeclaredConstructors()) {
            found.add(constructor.toString());
        }
        return found;
    }

    private static Object reachableFields() {
        TreeSet<String> found = new TreeSet<>();
        for (Field field : ShopHub.class.getDeclaredFields()) {
            if (!Modifier.isPrivate(field.getModifiers())) {
                found.add(field.toString());
            }
        }
        return found;
    }
}
