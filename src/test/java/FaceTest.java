import java.lang.reflect.Constructor;
import java.lang.reflect.Field;
import java.lang.reflect.Method;
import java.lang.reflect.Modifier;
import java.util.Arrays;
import java.util.Set;
import java.util.TreeSet;

/** The face is the document's, and nothing else of the class can be seen. */
public final class FaceTest {
    private static final String[] FACE = {
        "setBound(int) IllegalArgumentException",
        "record(int,int,int,int,int) IllegalArgumentException IllegalStateException",
        "gaps(int) IllegalArgumentException",
        "doubles(int) IllegalArgumentException",
        "calls()",
        "legs(int) IndexOutOfBoundsException",
        "length(int) IndexOutOfBoundsException",
        "addRate(int,int,int,int,int,int) IllegalArgumentException IllegalStateException",
        "rateFor(int,int) IllegalArgumentException NoSuchElementException",
        "charge(int) IndexOutOfBoundsException NoSuchElementException",
        "book()",
        "booked(int) IndexOutOfBoundsException NoSuchElementException",
        "correct()",
        "corrections()",
        "total(int) IllegalArgumentException",
        "offer(int,int,int) IllegalArgumentException IllegalStateException",
        "offerFor(int,int) IllegalArgumentException NoSuchElementException",
        "route(int,int,int,int) IllegalArgumentException NoSuchElementException",
        "claim(int,int) IndexOutOfBoundsException IllegalArgumentException",
        "difference(int) IllegalArgumentException",
        "narrow(int) IllegalArgumentException",
        "worst() NoSuchElementException",
    };

    public static void main(String[] args) {
        Expect expect = new Expect("face");
        Set<String> due = new TreeSet<>(Arrays.asList(FACE));
        Set<String> found = new TreeSet<>();
        Set<String> hidden = new TreeSet<>();
        for (Method method : CarrierDesk.class.getDeclaredMethods()) {
            if (Modifier.isPrivate(method.getModifiers())) {
                hidden.add(method.getName());
            } else {
                found.add(told(method));
            }
        }
        expect.look("the methods", due.toString(), found.toString());
        for (String shown : due) {
            String name = shown.substring(0, shown.indexOf('('));
            expect.look("a private method named " + name, "false", "" + hidden.contains(name));
        }
        for (Field field : CarrierDesk.class.getDeclaredFields()) {
            expect.look(field + " is private", "true",
                    "" + Modifier.isPrivate(field.getModifiers()));
            expect.look(field + " is no state of the class", "false", ""
                    + (Modifier.isStatic(field.getModifiers())
                    && !Modifier.isFinal(field.getModifiers())));
        }
        Constructor<?>[] constructors = CarrierDesk.class.getDeclaredConstructors();
        expect.same("the number of constructors", 1, constructors.length);
        expect.look("the constructor", "public CarrierDesk()", constructors[0].toString());
        expect.same("the class is public and final", Modifier.PUBLIC | Modifier.FINAL,
                CarrierDesk.class.getModifiers());
        expect.end();
    }

    private static String told(Method method) {
        StringBuilder text = new StringBuilder(method.getName()).append('(');
        for (Class<?> type : method.getParameterTypes()) {
            text.append(text.charAt(text.length() - 1) == '(' ? "" : ",").append(type.getName());
        }
        text.append(')');
        for (Class<?> type : method.getExceptionTypes()) {
            text.append(' ').append(type.getSimpleName());
        }
        boolean asDue = method.getReturnType() == int.class
                && method.getModifiers() == Modifier.PUBLIC;
        return asDue ? text.toString() : "not public int: " + text;
    }
}
