import java.lang.reflect.Constructor;
import java.lang.reflect.Field;
import java.lang.reflect.Method;
import java.lang.reflect.Modifier;
import java.util.ArrayList;
import java.util.Arrays;
import java.util.List;

/** The class has the document's face, and no other. */
public final class FaceTest {
    private static final String RANGE = " throws IndexOutOfBoundsException";
    private static final String ARGUMENT = RANGE + " IllegalArgumentException";
    private static final String STATE = RANGE + " IllegalStateException";
    private static final String ALL = ARGUMENT + " IllegalStateException";
    private static final String DAYS = " throws IllegalArgumentException IllegalStateException";

    private static final String[] FACE = {
        "int pass(int)" + DAYS, "boolean holiday(int)" + DAYS, "int setRule(int,int,boolean)" + ARGUMENT,
        "int open(int)" + STATE, "int join(int,int,int)" + STATE, "int lead(int,int)" + STATE,
        "int claim(int,int,int,int)" + ALL, "int sever(int)" + STATE, "int serve(int,int)" + STATE,
        "int answer(int)" + STATE, "int motion(int)" + STATE, "int respond(int)" + STATE,
        "int ruling(int,int)" + ALL, "int judge(int,int)" + ALL, "int vacate(int)" + STATE,
        "int appeal(int)" + STATE, "int decide(int,int,int)" + ALL, "int settle(int)" + STATE,
        "int pay(int,int)" + ALL, "int stay(int,boolean)" + STATE, "int defect(int)" + STATE,
        "boolean cure(int)" + STATE, "int extend(int,int,int)" + ALL, "int hearing(int,int,int)" + ALL,
        "int continueHearing(int)" + STATE, "int strike(int,int,int)" + STATE, "int dismiss(int,int)" + STATE,
        "int seat(int,int)" + RANGE, "int exhibit(int,int)" + STATE, "boolean hand(int,int,int)" + RANGE,
        "void object(int,int)" + STATE, "void sustain(int,int,boolean)" + STATE, "boolean isAdmitted(int)" + RANGE,
        "boolean seal(int,boolean)" + RANGE, "boolean maySee(int,int,int)" + ARGUMENT, "void certify(int)" + STATE,
        "int member(int,int,boolean)" + STATE, "int share(int,int)" + RANGE, "int today()", "int entries()",
        "int entryAt(int,int)" + RANGE, "boolean counts(int)" + RANGE, "int stateOf(int)" + RANGE,
        "int stateByDocket(int)" + RANGE, "int amountOf(int)" + RANGE, "int balance(int)" + RANGE,
        "int caseOf(int)" + RANGE, "boolean isAnswered(int)" + RANGE, "int due(int,int)" + RANGE,
        "int dueByDays(int,int)" + RANGE, "int hearingAt(int)" + RANGE,
    };
    private static final String[] CONSTANTS = {
        "NONE=-1", "PENDING=0", "DISMISSED=1", "WON=2", "APPEALED=3", "SETTLED=4", "PAID=5", "SERVE=0", "ANSWER=1",
        "MOTION=2", "RESPONSE=3", "RULING=4", "JUDGEMENT=5", "VACATE=6", "APPEAL=7", "DECISION=8", "SETTLE=9",
        "PAY=10", "STAY=11", "LIFT=12",
    };

    private FaceTest() {
    }

    public static void main(String[] args) throws IllegalAccessException {
        Check check = new Check("FaceTest");
        Class<Courtdocket> face = Courtdocket.class;
        check.same("public and final", face.getModifiers(), Modifier.PUBLIC | Modifier.FINAL);
        List<String> methods = new ArrayList<>();
        List<String> hidden = new ArrayList<>();
        for (Method method : face.getDeclaredMethods()) {
            if (Modifier.isPrivate(method.getModifiers())) {
                hidden.add(method.getName());
            } else {
                methods.add(told(method));
                check.same(method + " is public only", method.getModifiers(), Modifier.PUBLIC);
            }
        }
        for (String due : FACE) {
            check.same(due, methods.remove(due), true);
            String name = due.substring(due.indexOf(' ') + 1, due.indexOf('('));
            check.same("no private " + name, hidden.contains(name), false);
        }
        check.same("no other methods: " + methods, methods.isEmpty(), true);
        checkConstants(check, face);
        for (Constructor<?> constructor : face.getDeclaredConstructors()) {
            check.same(constructor + " is public", constructor.getModifiers(), Modifier.PUBLIC);
            check.same(constructor + " takes nothing", constructor.getParameterCount(), 0);
        }
        check.same("constructors", face.getDeclaredConstructors().length, 1);
        check.end();
    }

    private static void checkConstants(Check check, Class<?> face) throws IllegalAccessException {
        List<String> constants = new ArrayList<>();
        for (Field field : face.getDeclaredFields()) {
            if (!Modifier.isPrivate(field.getModifiers())) {
                constants.add(field.getName() + "=" + field.getInt(null));
                check.same(field + " is a constant", field.getModifiers(),
                    Modifier.PUBLIC | Modifier.STATIC | Modifier.FINAL);
            }
        }
        for (String due : CONSTANTS) {
            check.same(due, constants.remove(due), true);
        }
        check.same("no other constants: " + constants, constants.isEmpty(), true);
    }

    private static String told(Method method) {
        StringBuilder text = new StringBuilder();
        text.append(method.getReturnType()).append(' ').append(method.getName()).append('(');
        String types = Arrays.toString(method.getParameterTypes());
        text.append(types, 1, types.length() - 1).append(')');
        Class<?>[] thrown = method.getExceptionTypes();
        if (thrown.length > 0) {
            text.append(" throws");
        }
        for (Class<?> type : thrown) {
            text.append(' ').append(type.getSimpleName());
        }
        return text.toString().replace(", ", ",");
    }
}
