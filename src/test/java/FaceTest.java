import java.lang.reflect.Constructor;
import java.lang.reflect.Field;
import java.lang.reflect.Method;
import java.lang.reflect.Modifier;
import java.util.Set;
import java.util.TreeSet;

/** The public face, and promise 1: a new object. */
public final class FaceTest {
    private static final Set<String> FACE = Set.of(
        "int secret(int,int,int,int)", "int ofAnswer(int,int)", "int move(int,int)", "int grow(int)",
        "int shown(int,int)", "int nights(int,int,int,int,int,int)", "int worst(int)", "int ask(int)",
        "long mean(int,int)", "int parts(int,int)", "int months(int)", "int down(int)", "int reading(int,int)",
        "int back(int)", "int left()", "int kinds(int)", "int places(int)", "long odds(int,int)",
        "int sheet(int,int,int)", "int lose(int)", "int put(int,int,int)", "long cell(int,int,int)",
        "int copy(int,int,int,int,int)", "int tell(int)", "int whisper(int)", "int as(int,int)", "int trace()",
        "int fault()", "int many(int)");
    private static final Set<String> CONSTANTS = Set.of("UNKNOWN", "OUTSIDE", "STATE", "FULL", "NONE", "LOST");

    private FaceTest() {
    }

    private static String told(Method method) {
        StringBuilder told = new StringBuilder(method.getReturnType() + " " + method.getName() + "(");
        for (Class<?> type : method.getParameterTypes()) {
            told.append(told.charAt(told.length() - 1) == '(' ? "" : ",").append(type);
        }
        return told.append(")").toString();
    }

    private static void methodsAreTheFace() {
        Set<String> open = new TreeSet<>();
        Set<String> openNames = new TreeSet<>();
        Set<String> hiddenNames = new TreeSet<>();
        for (Method method : LieNights.class.getDeclaredMethods()) {
            if (Modifier.isPrivate(method.getModifiers())) {
                hiddenNames.add(method.getName());
            } else {
                open.add(told(method));
                openNames.add(method.getName());
            }
        }
        Bench.due("the face " + open, open.equals(FACE) ? 1 : 0, 1);
        hiddenNames.retainAll(openNames);
        Bench.due("private methods with public names " + hiddenNames, hiddenNames.size(), 0);
    }

    private static void onlyConstantsAreOpen() {
        Set<String> open = new TreeSet<>();
        for (Field field : LieNights.class.getDeclaredFields()) {
            if (!Modifier.isPrivate(field.getModifiers())) {
                open.add(field.getName());
            }
        }
        Bench.due("the constants " + open, open.equals(CONSTANTS) ? 1 : 0, 1);
        Bench.due("UNKNOWN", LieNights.UNKNOWN, -1);
        Bench.due("OUTSIDE", LieNights.OUTSIDE, -2);
        Bench.due("STATE", LieNights.STATE, -3);
        Bench.due("FULL", LieNights.FULL, -4);
        Bench.due("NONE", LieNights.NONE, -9);
        Bench.due("LOST", LieNights.LOST, Long.MIN_VALUE);
    }

    private static void oneConstructor() {
        Constructor<?>[] all = LieNights.class.getDeclaredConstructors();
        Bench.due("constructors", all.length, 1);
        Bench.due("its parameters", all[0].getParameterCount(), 0);
        Bench.due("it is public", Modifier.isPublic(all[0].getModifiers()) ? 1 : 0, 1);
        Bench.due("the class is final", Modifier.isFinal(LieNights.class.getModifiers()) ? 1 : 0, 1);
    }

    private static void aNewObjectHasNothing() {
        LieNights x = new LieNights();
        Bench.due("fault ahead of any", x.fault(), 0);
        Bench.due("trace at first", x.trace(), 0);
        for (int what = 0; what < 4; what++) {
            Bench.due("many of a new object", x.many(what), 0);
        }
        Bench.due("no answer", x.ofAnswer(0, 0), -1);
        Bench.due("no secret", x.left(), -3);
        for (int k = 0; k < 4; k++) {
            Bench.due("a sheet has nothing", x.lose(k), 0);
        }
    }

    private static void objectsAreApart() {
        LieNights x = Bench.told("a,p1,p2;3/4");
        LieNights y = new LieNights();
        Bench.due("the other has no answers", y.many(0), 0);
        Bench.due("the other has no sheet", y.lose(0), 0);
        Bench.due("tell", x.tell(0), 1);
        Bench.due("the other's trace", y.trace(), 0);
    }

    public static void main(String[] args) {
        methodsAreTheFace();
        onlyConstantsAreOpen();
        oneConstructor();
        aNewObjectHasNothing();
        objectsAreApart();
        Bench.end("FaceTest");
    }
}
