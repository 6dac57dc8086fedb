import java.lang.reflect.Constructor;
import java.lang.reflect.Field;
import java.lang.reflect.Member;
import java.lang.reflect.Method;
import java.lang.reflect.Modifier;
import java.util.Arrays;
import java.util.Set;
import java.util.TreeSet;

/** Promise 1, the constants, and the public face. */
public final class FaceTest {
    private static final String[] METHODS = {
        "int pack(int)", "int run(int,int,int)", "int at(int,int,int)", "int guess(int,int,int)",
        "int slip(int,int,int)", "int cut(int,int)", "int shuffle(int,int)", "int told(int,int)",
        "long exact(int,int,int)", "int leak(int,int,int)", "int shut(int,int)", "int gives(int,int)",
        "int counts(int)", "int screen(int,int)", "int plan(int,int)", "int weighs(int)", "int feed(int,long)",
        "int text()", "int force(int)", "long series(int,int,int)", "int best(int)", "long falls(int,int,int)",
        "int mixed(int,int,int)", "int image()", "int back()", "int count(int)", "int sheet(int,int,int)",
        "int cell(int,int,int)", "int copy(int,int,int,int,int)", "int runs(int,int,int,int)", "int taken(int,int)",
    };

    public static void main(String[] args) {
        newObject();
        constants();
        methods();
        nothingElse();
        Check.end();
    }

    private static void newObject() {
        FiveCards x = new FiveCards();
        Check.due("count(0)", x.count(0), 0);
        Check.due("run(0, 0, 0)", x.run(0, 0, 0), -2);
        FiveCards other = new FiveCards();
        x.pack(1);
        Check.due("count(0) of another object", other.count(0), 0);
    }

    private static void constants() {
        Check.due("NONE", FiveCards.NONE, -1);
        Check.due("BAD", FiveCards.BAD, -2);
        Check.due("STATE", FiveCards.STATE, -3);
        Check.due("FULL", FiveCards.FULL, -4);
        Check.due("NO", FiveCards.NO, -4611686018427387904L);
    }

    private static void methods() {
        Set<String> due = new TreeSet<>(Arrays.asList(METHODS));
        Set<String> found = new TreeSet<>();
        for (Method method : FiveCards.class.getDeclaredMethods()) {
            if (Modifier.isPublic(method.getModifiers())) {
                found.add(written(method));
            }
        }
        Check.holds("the public methods are " + due + " but " + found, due.equals(found));
    }

    private static String written(Method method) {
        StringBuilder text = new StringBuilder();
        for (Class<?> type : method.getParameterTypes()) {
            text.append(text.length() == 0 ? "" : ",").append(type.getName());
        }
        return method.getReturnType().getName() + " " + method.getName() + "(" + text + ")";
    }

    private static void nothingElse() {
        Check.holds("the class is final", Modifier.isFinal(FiveCards.class.getModifiers()));
        Set<String> faces = new TreeSet<>();
        for (String method : METHODS) {
            faces.add(method.substring(method.indexOf(' ') + 1, method.indexOf('(')));
        }
        for (Method method : FiveCards.class.getDeclaredMethods()) {
            if (!Modifier.isPublic(method.getModifiers())) {
                isPrivate(method);
                Check.holds(method + " bears no name of the face", !faces.contains(method.getName()));
            }
        }
        Set<String> constants = new TreeSet<>(Arrays.asList("NONE", "BAD", "STATE", "FULL", "NO"));
        for (Field field : FiveCards.class.getDeclaredFields()) {
            if (!constants.contains(field.getName())) {
                isPrivate(field);
            }
        }
        Constructor<?>[] constructors = FiveCards.class.getDeclaredConstructors();
        Check.due("how many constructors", constructors.length, 1);
        Check.holds("it is public", Modifier.isPublic(constructors[0].getModifiers()));
        for (Class<?> inside : FiveCards.class.getDeclaredClasses()) {
            Check.holds(inside + " is static", Modifier.isStatic(inside.getModifiers()));
            Check.holds(inside + " is not public", !Modifier.isPublic(inside.getModifiers()));
        }
    }

    private static void isPrivate(Member member) {
        Check.holds(member + " is private", Modifier.isPrivate(member.getModifiers()) || member.isSynthetic());
    }
}
