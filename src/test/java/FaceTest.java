import java.lang.reflect.Constructor;
import java.lang.reflect.Field;
import java.lang.reflect.Member;
import java.lang.reflect.Method;
import java.lang.reflect.Modifier;
import java.util.ArrayList;
import java.util.Arrays;
import java.util.Collections;
import java.util.List;
import java.util.Set;
import java.util.TreeSet;

/** The public face is the one of the document, and nothing else is visible. */
public final class FaceTest {
    private static final String NO_SUCH = " NoSuchElementException";
    private static final String ILLEGAL = " IllegalArgumentException";
    private static final String[] FACE = {
        "int feed 5", "int load 1" + ILLEGAL, "int errorPosition 0", "int cellCount 0", "int relationCount 0",
        "int mobileCount 0", "int clock 0", "int hysteresis 2" + NO_SUCH, "int level 3" + NO_SUCH + ILLEGAL,
        "int strongestCell 2" + ILLEGAL, "int coverage 1" + NO_SUCH, "int missingRelation 1" + ILLEGAL,
        "int addMobile 4" + ILLEGAL, "int setVelocity 3" + NO_SUCH + ILLEGAL, "int call 2" + NO_SUCH + ILLEGAL,
        "int hangUp 1" + NO_SUCH, "int setHysteresis 3" + NO_SUCH + ILLEGAL, "int run 1" + ILLEGAL,
        "int x 1" + NO_SUCH, "int y 1" + NO_SUCH, "int state 1" + NO_SUCH, "int servingCell 1" + NO_SUCH,
        "int remaining 1" + NO_SUCH, "int requestCell 1" + NO_SUCH, "int average 2" + NO_SUCH,
        "int reportCount 2" + NO_SUCH, "boolean isBarred 2" + NO_SUCH, "int candidate 2" + NO_SUCH,
        "int busyChannels 1" + NO_SUCH, "int queueLength 1" + NO_SUCH, "int queued 2" + NO_SUCH,
        "int successes 2" + NO_SUCH, "int refusals 2" + NO_SUCH, "int total 1", "int congestedTicks 1" + NO_SUCH,
        "int forecastCell 2" + NO_SUCH + ILLEGAL, "int bestHysteresis 3" + NO_SUCH + ILLEGAL, "int undoCount 0",
        "int undo 0", "void saveSnapshot 0", "boolean restoreSnapshot 0", "int query 1" + ILLEGAL,
    };

    public static void main(String[] args) {
        Check check = new Check();
        Class<?> face = CellHandover.class;
        check.holds("public", Modifier.isPublic(face.getModifiers()));
        check.holds("final", Modifier.isFinal(face.getModifiers()));
        check.is("NONE", CellHandover.NONE, -1);
        check.is("HIDDEN", CellHandover.HIDDEN, -1000000000);

        List<String> due = new ArrayList<>(Arrays.asList(FACE));
        List<String> found = new ArrayList<>();
        Set<String> publicNames = new TreeSet<>();
        for (Method method : face.getDeclaredMethods()) {
            if (isHidden(method)) {
                continue;
            }
            publicNames.add(method.getName());
            found.add(form(method));
        }
        Collections.sort(due);
        Collections.sort(found);
        check.holds("methods " + found + " instead of " + due, due.equals(found));
        for (Method method : face.getDeclaredMethods()) {
            check.fails("hidden " + method, isHidden(method) && publicNames.contains(method.getName()));
        }
        Set<String> constants = new TreeSet<>();
        for (Field field : face.getDeclaredFields()) {
            if (!isHidden(field)) {
                constants.add(field.getName());
            }
        }
        check.holds("constants " + constants, constants.equals(Set.of("NONE", "HIDDEN")));
        check.is("constructors", face.getDeclaredConstructors().length, 1);
        for (Constructor<?> constructor : face.getDeclaredConstructors()) {
            check.holds("public constructor", Modifier.isPublic(constructor.getModifiers()));
            check.is("its parameters", constructor.getParameterCount(), 0);
        }
        for (Class<?> inside : face.getDeclaredClasses()) {
            check.holds("static " + inside, Modifier.isStatic(inside.getModifiers()));
            check.fails("public " + inside, Modifier.isPublic(inside.getModifiers()));
            check.fails("protected " + inside, Modifier.isProtected(inside.getModifiers()));
        }
        check.end();
    }

    private static boolean isHidden(Member member) {
        return Modifier.isPrivate(member.getModifiers()) || member.isSynthetic();
    }

    private static String form(Method method) {
        StringBuilder form = new StringBuilder();
        form.append(Modifier.isPublic(method.getModifiers()) ? "" : "not public ");
        form.append(Modifier.isStatic(method.getModifiers()) ? "static " : "");
        form.append(method.getReturnType().getSimpleName()).append(' ').append(method.getName());
        form.append(' ').append(method.getParameterCount());
        for (Class<?> parameter : method.getParameterTypes()) {
            form.append(parameter == int.class ? "" : " not an int");
        }
        for (Class<?> thrown : method.getExceptionTypes()) {
            form.append(' ').append(thrown.getSimpleName());
        }
        return form.toString();
    }
}
