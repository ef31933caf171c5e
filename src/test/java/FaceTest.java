import java.lang.reflect.Constructor;
import java.lang.reflect.Field;
import java.lang.reflect.Method;
import java.lang.reflect.Modifier;
import java.util.Set;
import java.util.TreeSet;

/** The public face: just the members of the document. */
final class FaceTest {
    private static final String[] METHODS = {
        "int addOutage(int,int,int)",
        "int addUnit(int,int,int,int,int)",
        "int append(char)",
        "int bus(int,int,int)",
        "int commit(int,int,int,boolean)",
        "int delivered(int,int,int)",
        "int errorPosition()",
        "int hour(int,int)",
        "boolean isConsistent()",
        "float load(int)",
        "double meanCost()",
        "int outage(int,int)",
        "int output(int,int,int)",
        "int planByMerit()",
        "int readPlan()",
        "int removeOutage(int)",
        "int restore()",
        "int search()",
        "int setDemand(int,int,int)",
        "int setLine(int,int,int)",
        "int setPolicy(int)",
        "int setReserve(int,int)",
        "int setUnit(int,int,int)",
        "int size(int,int)",
        "int snapshot()",
        "int total(int)",
        "int undo()",
        "int unit(int,int)",
        "int violation(int,int)",
        "int violationCount(int)",
    };

    public static void main(String[] args) {
        Check.test("face: the class is public and final", () -> {
            int modifiers = UnitCommitment.class.getModifiers();
            Check.same(true, Modifier.isPublic(modifiers) && Modifier.isFinal(modifiers));
        });
        Check.test("face: the methods are those of the document", FaceTest::methods);
        Check.test("face: one public constructor, and no field is seen", FaceTest::others);
        Check.finish();
    }

    private static void methods() {
        Set<String> due = new TreeSet<>(Set.of(METHODS));
        Set<String> got = new TreeSet<>();
        for (Method method : UnitCommitment.class.getDeclaredMethods()) {
            if (Modifier.isPrivate(method.getModifiers()) || method.isSynthetic()) {
                continue;
            }
            StringBuilder text = new StringBuilder(method.getReturnType() + " " + method.getName() + "(");
            for (Class<?> type : method.getParameterTypes()) {
                text.append(text.charAt(text.length() - 1) == '(' ? "" : ",").append(type);
            }
            got.add(text + ")");
            Check.same(method.getName(), Modifier.PUBLIC, method.getModifiers());
        }
        Check.same(due, got);
    }

    private static void others() {
        for (Field field : UnitCommitment.class.getDeclaredFields()) {
            Check.same(field.getName(), true, Modifier.isPrivate(field.getModifiers()));
        }
        Constructor<?>[] constructors = UnitCommitment.class.getDeclaredConstructors();
        Check.same(1, constructors.length);
        Check.same(Modifier.PUBLIC, constructors[0].getModifiers());
        Check.same(0, constructors[0].getParameterCount());
    }
}
