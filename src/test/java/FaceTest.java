import java.lang.reflect.Constructor;
import java.lang.reflect.Field;
import java.lang.reflect.Method;
import java.lang.reflect.Modifier;
import java.util.Arrays;
import java.util.Set;
import java.util.TreeSet;

/** The public face: the document's members, and no other that is not private. */
public final class FaceTest {
    private static final String[] METHODS = {"int feed(int, int, int, int, int)", "int back(int)", "int read()",
        "int place()", "int house(int, int)", "int tells(int, int)", "int buy(int, int, int)", "int eat(int, int)",
        "int salts(int, int)", "boolean proxy(int, int)", "int days(int)", "boolean undo()", "int panic(int)",
        "int spark(int)", "int calm(int, int, int)", "int power(int, boolean)", "int strongest(int)",
        "int allies(int)", "int takeover(int, int)", "int motion(int, int)", "int sell(int, int, int)",
        "int salting(int, int)", "int dearest(int, int)", "int poorest(int, int)", "int quiet(int)",
        "int share(int)", "int priceIn(int)", "int then(int, int, int)", "int allIn(int)", "int deals(int)",
        "int ruin(int, int, int)", "int tell(int, boolean)", "int forget()", "int began(int, int)", "int ask(int)",
        "boolean hold(int)", "boolean restore(int)", "int count(int)"};

    private static int wrong;

    public static void main(String[] args) {
        Set<String> found = new TreeSet<>();
        Set<String> names = new TreeSet<>();
        for (Method method : HerringShares.class.getDeclaredMethods()) {
            if (!Modifier.isPrivate(method.getModifiers())) {
                check(method.getModifiers() == Modifier.PUBLIC, method + " is not just public");
                found.add(told(method));
                names.add(method.getName());
            }
        }
        check(found.equals(new TreeSet<>(Arrays.asList(METHODS))), "the methods are " + found);
        for (Method method : HerringShares.class.getDeclaredMethods()) {
            check(!Modifier.isPrivate(method.getModifiers()) || !names.contains(method.getName()),
                    method + " is private and bears the name of a public one");
        }
        for (Field field : HerringShares.class.getDeclaredFields()) {
            boolean none = field.getName().equals("NONE") && field.getType() == int.class
                    && field.getModifiers() == (Modifier.PUBLIC | Modifier.STATIC | Modifier.FINAL);
            check(none || Modifier.isPrivate(field.getModifiers()), "a field that is not private: " + field);
        }
        Constructor<?>[] constructors = HerringShares.class.getDeclaredConstructors();
        check(constructors.length == 1 && constructors[0].getParameterCount() == 0
                && constructors[0].getModifiers() == Modifier.PUBLIC, "the constructor");
        check(HerringShares.class.getModifiers() == (Modifier.PUBLIC | Modifier.FINAL), "the class");
        for (Class<?> inside : HerringShares.class.getDeclaredClasses()) {
            check(Modifier.isStatic(inside.getModifiers()) && Modifier.isPrivate(inside.getModifiers()),
                    inside + " is not private and static");
            for (Method method : inside.getDeclaredMethods()) {
                check(!names.contains(method.getName()), method + " bears the name of a public one");
            }
        }
        System.out.println(wrong + " faults of the face");
        if (wrong != 0) {
            System.exit(1);
        }
    }

    private static String told(Method method) {
        StringBuilder text = new StringBuilder();
        text.append(method.getReturnType()).append(' ').append(method.getName()).append('(');
        for (Class<?> type : method.getParameterTypes()) {
            text.append(text.charAt(text.length() - 1) == '(' ? "" : ", ").append(type);
        }
        return text.append(')').toString();
    }

    private static void check(boolean fine, String what) {
        if (!fine) {
            wrong++;
            System.out.println(what);
        }
    }
}
