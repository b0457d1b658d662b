import java.lang.reflect.Method;
import java.lang.reflect.Modifier;
import java.util.Arrays;
import java.util.TreeSet;

/** The public face, as the document writes it, and promise 1. */
final class FaceTest {
    private static final String[] FACE = {
        "int unit(int,int,int,int) IllegalStateException",
        "int rule() IllegalStateException",
        "boolean drop(int) NoSuchElementException",
        "int person(int) IllegalArgumentException IllegalStateException",
        "int record(int,int) IllegalArgumentException IllegalStateException",
        "long value(int,int,long) NoSuchElementException",
        "int embargo(int,int) NoSuchElementException IllegalArgumentException",
        "int agreement(int,int,int,int) NoSuchElementException IllegalArgumentException IllegalStateException",
        "int asks(int,int,int,int,int) NoSuchElementException IllegalArgumentException",
        "long masked(int,int) NoSuchElementException",
        "int look(int,int) NoSuchElementException",
        "int looked(int,int) NoSuchElementException",
        "int export(int,int) NoSuchElementException IllegalArgumentException",
        "int exported(int) NoSuchElementException",
        "int request(int,int,int) NoSuchElementException IllegalArgumentException IllegalStateException",
        "int limit(int,int) NoSuchElementException IllegalArgumentException",
        "int idle(int) IllegalArgumentException",
        "int count(int) IllegalArgumentException",
    };

    public static void main(String[] args) {
        Checks checks = new Checks();
        constants(checks);
        methods(checks);
        newObject(checks);
        checks.end();
    }

    private static void constants(Checks checks) {
        checks.equal("NONE", RecordRights.NONE, -1);
        checks.equal("ABSENT", RecordRights.ABSENT, 0);
        checks.equal("MASKED", RecordRights.MASKED, 1);
        checks.equal("SHOWN", RecordRights.SHOWN, 2);
        checks.equal("public fields", RecordRights.class.getFields().length, 4);
        checks.equal("public constructors", RecordRights.class.getConstructors().length, 1);
        checks.equal("constructors", RecordRights.class.getDeclaredConstructors().length, 1);
        checks.holds("the class is final", Modifier.isFinal(RecordRights.class.getModifiers()));
    }

    private static void methods(Checks checks) {
        TreeSet<String> got = new TreeSet<>();
        TreeSet<String> names = new TreeSet<>();
        for (Method method : RecordRights.class.getDeclaredMethods()) {
            if (Modifier.isPrivate(method.getModifiers())) {
                continue;
            }
            names.add(method.getName());
            got.add(told(method));
        }
        TreeSet<String> due = new TreeSet<>(Arrays.asList(FACE));
        checks.holds("the face is " + due + ", got " + got, got.equals(due));
        for (Method method : RecordRights.class.getDeclaredMethods()) {
            if (Modifier.isPrivate(method.getModifiers())) {
                checks.fails(method.getName() + " is private and public", names.contains(method.getName()));
            }
        }
    }

    private static String told(Method method) {
        StringBuilder text = new StringBuilder();
        text.append(method.getReturnType()).append(' ').append(method.getName()).append('(');
        String comma = "";
        for (Class<?> type : method.getParameterTypes()) {
            text.append(comma).append(type);
            comma = ",";
        }
        text.append(')');
        for (Class<?> type : method.getExceptionTypes()) {
            text.append(' ').append(type.getSimpleName());
        }
        return text.toString();
    }

    private static void newObject(Checks checks) {
        RecordRights rights = new RecordRights();
        for (int what = 0; what <= 6; what++) {
            checks.equal("count(" + what + ") of a new object", rights.count(what), 0);
        }
        checks.noSuch("drop(0)", () -> rights.drop(0));
        checks.noSuch("value(0, 0, 1)", () -> rights.value(0, 0, 1));
        checks.noSuch("limit(0, 1)", () -> rights.limit(0, 1));
        checks.noSuch("export(0, 1)", () -> rights.export(0, 1));
        checks.noSuch("exported(0)", () -> rights.exported(0));
        checks.noSuch("look(0, 0)", () -> rights.look(0, 0));
        checks.equal("idle(0)", rights.idle(0), RecordRights.NONE);
        checks.equal("rule()", rights.rule(), RecordRights.NONE);
        RecordRights other = new RecordRights();
        other.person(1);
        checks.equal("objects share nothing", rights.count(3), 0);
    }
}
