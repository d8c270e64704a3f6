import java.lang.reflect.InvocationTargetException;
import java.lang.reflect.Method;
import java.util.ArrayList;
import java.util.Comparator;
import java.util.List;

/** The tests that stand for words of DOC.md, one by one. */
final class Sentences {
    private static final List<Class<?>> CLASSES = List.of(CellSentences.class, SetUpSentences.class, TickSentences.class,
            HandoverSentences.class, TextSentences.class, QuerySentences.class, StateSentences.class, PlaneSentences.class,
            OperationSentences.class, MobileSentences.class, ForecastSentences.class);

    private Sentences() {
    }

    static List<Method> all() {
        List<Method> tests = new ArrayList<>();
        for (Class<?> type : CLASSES) {
            List<Method> ofType = new ArrayList<>();
            for (Method method : type.getDeclaredMethods()) {
                if (method.isAnnotationPresent(Says.class)) {
                    ofType.add(method);
                }
            }
            ofType.sort(Comparator.comparing(Method::getName));
            tests.addAll(ofType);
        }
        return tests;
    }

    static String nameOf(Method test) {
        return test.getDeclaringClass().getName() + "." + test.getName();
    }

    /** Makes the checks of a test; answers how many are wrong. A test that breaks off, or checks nothing, is wrong. */
    static int wrongIn(Method test) {
        Check check = new Check();
        try {
            test.invoke(null, check);
        } catch (InvocationTargetException e) {
            System.out.println(nameOf(test) + " broke off: " + e.getCause());
            return check.wrong() + 1;
        } catch (IllegalAccessException e) {
            throw new IllegalStateException(e);
        }
        return check.checks() == 0 ? 1 : check.wrong();
    }

    /** The same by name, for one who has loaded this class anew; -1 if there is no such test. */
    static int wrongIn(String name) {
        for (Method test : all()) {
            if (nameOf(test).equals(name)) {
                return wrongIn(test);
            }
        }
        return -1;
    }
}
