import java.lang.reflect.Constructor;
import java.lang.reflect.Field;
import java.lang.reflect.Method;
import java.lang.reflect.Modifier;
import java.util.Set;
import java.util.TreeSet;

/** The public face, as the document prints it, and no member beside it but private ones. */
public final class FaceTest {
    private static final String[] METHODS = {
        "int feed(int int int int int)", "int machine(int)", "int fault()", "int where()", "int word(int int)",
        "int backing(int)", "int writes(int)", "int root()", "int marks()", "int wordsWith(int int)",
        "int look(int boolean boolean)", "int leads(int)", "int rights(int)", "int large(int)", "int aliases(int)",
        "int tables()", "int hits(int boolean boolean)", "int stale()", "int staleAt()", "int missing()",
        "int shadow(int int)", "int entry(int int)", "int maps(int)", "int writers(int)", "int watched(int)",
        "int outOfStep()", "int dropsNext()", "int runFaults(int)", "int runRefused(int)", "int runDrops(int)",
        "int poolFor(int)", "int sweep(int int)", "int drawnFaults(int int)", "int drawnMarks(int int)",
        "long rate(boolean)", "int fits()", "int fitAt(int)", "int could()", "int surely()", "int ask()",
        "int askLeaves()", "int judge()", "int access(int boolean boolean)", "int store(int int int boolean)",
        "int load(int)", "int flush(int)", "int device(int int int)", "int unmap(int)",
        "boolean give(int int boolean)", "int protect(int)", "int clean(int)", "boolean undo()", "int image()",
        "boolean back(int)", "int led(int)", "int size(int)", "int trouble()"
    };

    public static void main(String[] args) {
        Checks checks = new Checks();
        checks.part("face");
        Class<ShadowPager> face = ShadowPager.class;
        checks.due("final", true, Modifier.isFinal(face.getModifiers()));
        Set<String> due = new TreeSet<>();
        for (String method : METHODS) {
            due.add(method);
        }
        Set<String> names = new TreeSet<>();
        Set<String> found = new TreeSet<>();
        for (Method method : face.getDeclaredMethods()) {
            if (Modifier.isPublic(method.getModifiers())) {
                found.add(told(method));
                names.add(method.getName());
            } else {
                checks.due(method.getName() + " is private", true, Modifier.isPrivate(method.getModifiers()));
            }
        }
        checks.due("methods " + found, true, due.equals(found));
        for (Class<?> inside : face.getDeclaredClasses()) {
            checks.due(inside + " static", true, Modifier.isStatic(inside.getModifiers()));
            checks.due(inside + " not public", false, Modifier.isPublic(inside.getModifiers()));
            for (Method method : inside.getDeclaredMethods()) {
                checks.due(method + " has no name of the face", false, names.contains(method.getName()));
            }
        }
        for (Method method : face.getDeclaredMethods()) {
            if (Modifier.isPrivate(method.getModifiers())) {
                checks.due(method + " has no name of the face", false, names.contains(method.getName()));
            }
        }
        for (Field field : face.getDeclaredFields()) {
            boolean none = field.getName().equals("NONE");
            checks.due(field.getName() + " public", none, Modifier.isPublic(field.getModifiers()));
            checks.due(field.getName() + " private", !none, Modifier.isPrivate(field.getModifiers()));
        }
        Constructor<?>[] makers = face.getDeclaredConstructors();
        checks.due("constructors", 1, makers.length);
        checks.due("its arguments", 0, makers[0].getParameterCount());
        checks.due("NONE", -1, ShadowPager.NONE);
        checks.end();
    }

    private static String told(Method method) {
        StringBuilder text = new StringBuilder(method.getReturnType().getName());
        text.append(' ').append(method.getName()).append('(');
        for (Class<?> type : method.getParameterTypes()) {
            text.append(text.charAt(text.length() - 1) == '(' ? "" : " ").append(type.getName());
        }
        return text.append(')').toString();
    }
}
