import java.lang.reflect.Constructor;
import java.lang.reflect.Field;
import java.lang.reflect.Method;
import java.lang.reflect.Modifier;
import java.util.ArrayList;
import java.util.List;
import java.util.TreeSet;

/** The public face is the document's, to the letter, and nothing else can be seen. */
public final class FaceTest {
    private static final String[] METHODS = {
        "int addEntity() IllegalStateException",
        "int entityCount()",
        "int tell(int,int,int,int,int) IndexOutOfBoundsException IllegalArgumentException IllegalStateException",
        "int retract(int,int,int,int) IndexOutOfBoundsException IllegalArgumentException NoSuchElementException IllegalStateException",
        "int correct(int,int,int,int) IndexOutOfBoundsException IllegalArgumentException NoSuchElementException IllegalStateException",
        "int clock()",
        "char operationAt(int) IllegalArgumentException",
        "int entityOf(int) IllegalArgumentException",
        "int factCount()",
        "int openCount()",
        "int factValue(int) NoSuchElementException",
        "int factFrom(int) NoSuchElementException",
        "int factTo(int) NoSuchElementException",
        "int openedAt(int) NoSuchElementException",
        "int closedAt(int) NoSuchElementException",
        "int purge(int) IllegalArgumentException",
        "int horizon()",
        "boolean isKnown(int,int,int,int) IndexOutOfBoundsException IllegalArgumentException UnsupportedOperationException",
        "int valueAt(int,int,int,int) IndexOutOfBoundsException IllegalArgumentException UnsupportedOperationException NoSuchElementException",
        "int valueByReplay(int,int,int,int) IndexOutOfBoundsException IllegalArgumentException UnsupportedOperationException NoSuchElementException",
        "int knownDays(int,int,int) IndexOutOfBoundsException IllegalArgumentException UnsupportedOperationException",
        "int periodCount(int,int,int) IndexOutOfBoundsException IllegalArgumentException UnsupportedOperationException",
        "int periodFrom(int,int,int,int) IndexOutOfBoundsException IllegalArgumentException UnsupportedOperationException NoSuchElementException",
        "int periodTo(int,int,int,int) IndexOutOfBoundsException IllegalArgumentException UnsupportedOperationException NoSuchElementException",
        "int periodValue(int,int,int,int) IndexOutOfBoundsException IllegalArgumentException UnsupportedOperationException NoSuchElementException",
        "long integral(int,int,int) IndexOutOfBoundsException IllegalArgumentException UnsupportedOperationException",
        "int changedDays(int,int,int,int) IndexOutOfBoundsException IllegalArgumentException UnsupportedOperationException",
        "int total(int,int,int) IndexOutOfBoundsException IllegalArgumentException UnsupportedOperationException ArithmeticException",
        "double meanValue(int,int,int) IndexOutOfBoundsException IllegalArgumentException UnsupportedOperationException ArithmeticException",
        "int joinCount(int,int,int,int,int) IndexOutOfBoundsException IllegalArgumentException UnsupportedOperationException",
        "int joinFrom(int,int,int,int,int,int) IndexOutOfBoundsException IllegalArgumentException UnsupportedOperationException NoSuchElementException",
        "int joinTo(int,int,int,int,int,int) IndexOutOfBoundsException IllegalArgumentException UnsupportedOperationException NoSuchElementException",
        "int commonDays(int,int,int,int,int) IndexOutOfBoundsException IllegalArgumentException UnsupportedOperationException",
        "int agreeDays(int,int,int,int,int) IndexOutOfBoundsException IllegalArgumentException UnsupportedOperationException",
        "int versionCount(int,int,int) IndexOutOfBoundsException IllegalArgumentException",
        "int versionTick(int,int,int,int) IndexOutOfBoundsException IllegalArgumentException NoSuchElementException",
        "boolean isVersionKnown(int,int,int,int) IndexOutOfBoundsException IllegalArgumentException NoSuchElementException",
        "int versionValue(int,int,int,int) IndexOutOfBoundsException IllegalArgumentException NoSuchElementException",
        "int writePeriods(int,int,int) IndexOutOfBoundsException IllegalArgumentException UnsupportedOperationException",
        "char lineAt(int) IndexOutOfBoundsException",
        "boolean isConsistent()",
    };

    private FaceTest() {
    }

    public static void main(String[] args) {
        Check check = new Check();
        classIsPublicAndFinal(check);
        methodsAreTheDocuments(check);
        constantsAreTheDocuments(check);
        privateNamesAreOthers(check);
        check.end();
    }

    private static void classIsPublicAndFinal(Check check) {
        int modifiers = FactLedger.class.getModifiers();
        check.due("class", () -> Modifier.toString(modifiers), "public final");
        check.due("package", () -> FactLedger.class.getPackageName().isEmpty(), true);
        Constructor<?>[] constructors = FactLedger.class.getDeclaredConstructors();
        check.due("constructors", () -> constructors.length, 1);
        check.due("constructor", () -> constructors[0].toString(), "public FactLedger()");
        for (Class<?> inner : FactLedger.class.getDeclaredClasses()) {
            int seen = inner.getModifiers() & (Modifier.PUBLIC | Modifier.PROTECTED);
            check.due(inner + " is hidden", () -> seen, 0);
            check.due(inner + " is static", () -> Modifier.isStatic(inner.getModifiers()), true);
        }
    }

    private static void methodsAreTheDocuments(Check check) {
        List<String> seen = new ArrayList<>();
        for (Method method : FactLedger.class.getDeclaredMethods()) {
            if (!Modifier.isPrivate(method.getModifiers())) {
                seen.add(signature(method));
            }
        }
        check.due("methods", () -> new TreeSet<>(seen), new TreeSet<>(List.of(METHODS)));
    }

    private static String signature(Method method) {
        StringBuilder text = new StringBuilder();
        text.append(method.getReturnType()).append(' ').append(method.getName()).append('(');
        for (Class<?> type : method.getParameterTypes()) {
            text.append(text.charAt(text.length() - 1) == '(' ? "" : ",").append(type);
        }
        text.append(')');
        for (Class<?> type : method.getExceptionTypes()) {
            text.append(' ').append(type.getSimpleName());
        }
        boolean plain = Modifier.toString(method.getModifiers()).equals("public");
        return plain ? text.toString() : Modifier.toString(method.getModifiers()) + " " + text;
    }

    private static void constantsAreTheDocuments(Check check) {
        check.due("NONE", () -> FactLedger.NONE, -1);
        List<String> seen = new ArrayList<>();
        for (Field field : FactLedger.class.getDeclaredFields()) {
            if (!Modifier.isPrivate(field.getModifiers())) {
                seen.add(field.toString());
            }
        }
        check.due("constants", () -> seen, "[public static final int FactLedger.NONE]");
    }

    private static void privateNamesAreOthers(Check check) {
        TreeSet<String> face = new TreeSet<>();
        for (String method : METHODS) {
            face.add(method.substring(method.indexOf(' ') + 1, method.indexOf('(')));
        }
        List<String> shared = new ArrayList<>();
        for (Method method : FactLedger.class.getDeclaredMethods()) {
            if (Modifier.isPrivate(method.getModifiers()) && face.contains(method.getName())) {
                shared.add(method.getName());
            }
        }
        check.due("private methods with a public one's name", () -> shared, "[]");
    }
}
