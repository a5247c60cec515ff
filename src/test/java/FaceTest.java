import java.lang.reflect.Constructor;
import java.lang.reflect.Field;
import java.lang.reflect.Method;
import java.lang.reflect.Modifier;
import java.util.ArrayList;
import java.util.Arrays;
import java.util.List;

/** The public face: what the document lists, and nothing else that is visible. */
public final class FaceTest {
    private static final String[] METHODS = {
        "int lot(long)", "int bidder(boolean)", "boolean time(int,long)", "boolean most(int,int)",
        "int bid(int,long)", "boolean on(int,int)", "int seal(int,int,int)",
        "int digest(int,long,int)", "int open(int,long)", "int run(long)", "boolean wins(int)",
        "long sum()", "long bound()", "boolean proved()", "long second(int)", "int tie(int,int)",
        "boolean step(int,long,long,long)", "long price(int,long,long)",
        "boolean index(int,long,long)", "long monthly(int,int)", "int dispute(int,int)",
        "int verdict(int)"};

    public static void main(String[] args) {
        Check check = new Check();
        int classModifiers = BaleTenders.class.getModifiers();
        check.due("public class", Modifier.isPublic(classModifiers), true);
        check.due("final class", Modifier.isFinal(classModifiers), true);
        check.due("NONE", BaleTenders.NONE, -1);
        methods(check);
        fields(check);
        constructors(check);
        for (Class<?> inside : BaleTenders.class.getDeclaredClasses()) {
            int m = inside.getModifiers();
            check.due(inside.getName() + " is static", Modifier.isStatic(m), true);
            check.due(inside.getName() + " is hidden",
                    Modifier.isPublic(m) || Modifier.isProtected(m), false);
        }
        check.end();
    }

    private static void methods(Check check) {
        List<String> visible = new ArrayList<>();
        for (Method method : BaleTenders.class.getDeclaredMethods()) {
            if (!Modifier.isPrivate(method.getModifiers()) && !method.isSynthetic()) {
                visible.add(signature(method));
                check.due(signature(method) + " is public",
                        Modifier.isPublic(method.getModifiers()), true);
                check.due(signature(method) + " is of an object",
                        Modifier.isStatic(method.getModifiers()), false);
            }
        }
        for (String wanted : METHODS) {
            check.due("has " + wanted, visible.contains(wanted), true);
        }
        for (String had : visible) {
            check.due("may have " + had, Arrays.asList(METHODS).contains(had), true);
        }
    }

    private static String signature(Method method) {
        StringBuilder text = new StringBuilder();
        for (Class<?> parameter : method.getParameterTypes()) {
            text.append(text.length() == 0 ? "" : ",").append(parameter.getSimpleName());
        }
        return method.getReturnType().getSimpleName() + " " + method.getName() + "(" + text + ")";
    }

    private static void fields(Check check) {
        for (Field field : BaleTenders.class.getDeclaredFields()) {
            int m = field.getModifiers();
            boolean constant = field.getName().equals("NONE");
            check.due(field.getName() + " is private", Modifier.isPrivate(m), !constant);
            if (Modifier.isStatic(m)) {
                check.due(field.getName() + " is final", Modifier.isFinal(m), true);
            }
        }
    }

    private static void constructors(Check check) {
        Constructor<?>[] all = BaleTenders.class.getDeclaredConstructors();
        check.due("constructors", all.length, 1);
        check.due("public constructor", Modifier.isPublic(all[0].getModifiers()), true);
        check.due("constructor's parameters", all[0].getParameterCount(), 0);
    }
}
