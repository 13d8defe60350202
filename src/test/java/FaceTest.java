import java.lang.reflect.Constructor;
import java.lang.reflect.Field;
import java.lang.reflect.Method;
import java.lang.reflect.Modifier;
import java.util.ArrayList;
import java.util.List;
import java.util.Map;
import java.util.TreeMap;

/** The class has the document's public face and no other member that can be seen from outside. */
public final class FaceTest {
    private static final String[] FACE = {
        "int offer(int,char,int) IllegalArgumentException IllegalStateException",
        "int withdraw(int) NoSuchElementException IllegalStateException",
        "int allow(int,int,int) IllegalArgumentException IllegalStateException",
        "int forbid() IllegalStateException",
        "int bid(int,int) IllegalArgumentException IllegalStateException",
        "int ask(int,int,char) NoSuchElementException IllegalArgumentException IllegalStateException",
        "int raise(int,int) NoSuchElementException IllegalStateException IllegalArgumentException",
        "int cancel(int) NoSuchElementException IllegalStateException",
        "int close() IllegalStateException",
        "int lots()",
        "int bids()",
        "int openLots()",
        "int openBids()",
        "int fibreOf(int) NoSuchElementException",
        "char gradeOf(int) NoSuchElementException",
        "int reserveOf(int) NoSuchElementException",
        "char lotState(int) NoSuchElementException",
        "int soldTo(int) NoSuchElementException IllegalStateException",
        "int countOf(int,char) IllegalArgumentException",
        "int items(int) NoSuchElementException",
        "boolean fits(int,int,int) NoSuchElementException IndexOutOfBoundsException",
        "int fitting(int,int) NoSuchElementException IndexOutOfBoundsException",
        "int priceOf(int) NoSuchElementException",
        "char stateOf(int) NoSuchElementException",
        "char reason(int) NoSuchElementException IllegalStateException",
        "int rival(int) NoSuchElementException IllegalStateException",
        "int lotOf(int,int) NoSuchElementException IndexOutOfBoundsException IllegalStateException",
        "int paid(int) NoSuchElementException IllegalStateException",
        "int costOf(int) NoSuchElementException IllegalStateException UnsupportedOperationException",
        "int surplus()",
        "int surplusBySets()",
        "int surplusWithout(int) IllegalArgumentException",
        "boolean wouldWin(int) NoSuchElementException IllegalStateException",
        "boolean wouldWinBySets(int) NoSuchElementException IllegalStateException",
        "int lotFor(int,int) NoSuchElementException IndexOutOfBoundsException IllegalStateException"
            + " UnsupportedOperationException",
        "int payment(int) NoSuchElementException IllegalStateException UnsupportedOperationException",
        "long takings()",
        "float soldShare() ArithmeticException",
        "double meanPaid() ArithmeticException",
    };

    private FaceTest() {
    }

    public static void main(String[] args) {
        Check check = new Check();
        Class<?> market = SkeinMarket.class;
        check.same("public and final", Modifier.toString(market.getModifiers()), "public final");
        checkMethods(check, market);
        for (Field field : market.getDeclaredFields()) {
            check.same("private field " + field.getName(), Modifier.isPrivate(field.getModifiers()), true);
        }
        for (Class<?> inside : market.getDeclaredClasses()) {
            checkInside(check, inside);
        }
        Constructor<?>[] constructors = market.getDeclaredConstructors();
        check.same("constructors", constructors.length, 1);
        check.same("the constructor", constructors[0].toString(), "public SkeinMarket()");
        check.end();
    }

    private static void checkInside(Check check, Class<?> inside) {
        check.same("visible " + inside.getName(), inside.getModifiers() & (Modifier.PUBLIC | Modifier.PROTECTED), 0);
        for (Method method : inside.getDeclaredMethods()) {
            check.same("name of inner " + method.getName(), face().containsKey(method.getName()), false);
        }
    }

    private static Map<String, String> face() {
        Map<String, String> face = new TreeMap<>();
        for (String line : FACE) {
            face.put(line.substring(line.indexOf(' ') + 1, line.indexOf('(')), line);
        }
        return face;
    }

    private static void checkMethods(Check check, Class<?> market) {
        Map<String, String> due = face();
        List<String> names = new ArrayList<>();
        for (Method method : market.getDeclaredMethods()) {
            if (Modifier.isPrivate(method.getModifiers())) {
                check.same("name of private " + method.getName(), due.containsKey(method.getName()), false);
            } else {
                check.same("method", described(method), due.getOrDefault(method.getName(), "none"));
                names.add(method.getName());
            }
        }
        check.same("number of methods", names.size(), FACE.length);
    }

    private static String described(Method method) {
        StringBuilder text = new StringBuilder(method.getReturnType() + " " + method.getName() + "(");
        for (int i = 0; i < method.getParameterCount(); i++) {
            text.append(i == 0 ? "" : ",").append(method.getParameterTypes()[i]);
        }
        text.append(")");
        for (Class<?> thrown : method.getExceptionTypes()) {
            text.append(" ").append(thrown.getSimpleName());
        }
        return text.toString();
    }
}
