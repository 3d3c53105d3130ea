import java.lang.reflect.Constructor;
import java.lang.reflect.Field;
import java.lang.reflect.Member;
import java.lang.reflect.Method;
import java.lang.reflect.Modifier;
import java.util.List;
import java.util.Set;
import java.util.TreeSet;

/** The public face, and promise 1: what a new object answers. */
public final class FaceTest {
    private static final Set<String> FACE = Set.of(
            "set(int,int,int):int", "get(int,int):int", "add(int,int,int,int,int):int",
            "multiply(int,int,int):int", "derive(int,int):int", "divide(int,int,int):int",
            "common(int,int,int):int", "parts(int):int", "part(int,int):long", "times(int):int",
            "content():int", "pattern(int,int):int", "degree(int):int", "galois(int):int");
    private static final Set<String> NEVER_THROW = Set.of("part", "times", "content", "degree");

    public static void main(String[] args) {
        constants();
        members();
        newObject();
        objectsStandAlone();
        Check.end();
    }

    private static void constants() {
        Check.same("NONE", GaloisDesk.NONE, -1);
        Check.same("FULL", GaloisDesk.FULL, -2);
        Check.same("ZERO", GaloisDesk.ZERO, -3);
    }

    private static void members() {
        int modifiers = GaloisDesk.class.getModifiers();
        Check.holds("the class is public and final", Modifier.isPublic(modifiers) && Modifier.isFinal(modifiers));
        Set<String> seen = new TreeSet<>();
        for (Method method : GaloisDesk.class.getDeclaredMethods()) {
            if (!isHidden(method)) {
                seen.add(signature(method));
                Check.holds(method.getName() + " is public and no static one",
                        Modifier.isPublic(method.getModifiers()) && !Modifier.isStatic(method.getModifiers()));
                Check.holds(method.getName() + " declares what it throws as the document does",
                        List.of(method.getExceptionTypes()).equals(NEVER_THROW.contains(method.getName())
                                ? List.of() : List.of(IllegalArgumentException.class)));
            }
        }
        Check.holds("the methods are those of the document, not " + seen, seen.equals(FACE));
        Set<String> constants = new TreeSet<>();
        for (Field field : GaloisDesk.class.getDeclaredFields()) {
            if (!isHidden(field)) {
                constants.add(field.getName());
                Check.holds(field.getName() + " is a constant number", field.getType() == int.class
                        && Modifier.toString(field.getModifiers()).equals("public static final"));
            }
        }
        Check.holds("the constants are those of the document, not " + constants,
                constants.equals(Set.of("NONE", "FULL", "ZERO")));
        Constructor<?>[] constructors = GaloisDesk.class.getDeclaredConstructors();
        Check.holds("there is one public constructor without parameters", constructors.length == 1
                && Modifier.isPublic(constructors[0].getModifiers()) && constructors[0].getParameterCount() == 0);
    }

    private static boolean isHidden(Member member) {
        return Modifier.isPrivate(member.getModifiers()) || member.isSynthetic();
    }

    private static String signature(Method method) {
        StringBuilder text = new StringBuilder(method.getName()).append('(');
        for (Class<?> type : method.getParameterTypes()) {
            text.append(text.charAt(text.length() - 1) == '(' ? "" : ",").append(type.getName());
        }
        return text.append("):").append(method.getReturnType().getName()).toString();
    }

    private static void newObject() {
        GaloisDesk desk = new GaloisDesk();
        for (int slot = 0; slot <= 7; slot++) {
            Check.slot("new object", desk, slot);
        }
        Check.same("new object: content()", desk.content(), 0);
        Check.noPartsFrom("new object", desk, 0);
        Check.degrees("new object", desk);
    }

    private static void objectsStandAlone() {
        GaloisDesk one = Check.deskWith(-1, 0, 1);
        one.parts(0);
        one.pattern(0, 5);
        GaloisDesk other = new GaloisDesk();
        Check.slot("another object", other, 0);
        Check.same("another object: content()", other.content(), 0);
        Check.noPartsFrom("another object", other, 0);
        Check.degrees("another object", other);
    }
}
