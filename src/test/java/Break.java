import java.lang.annotation.ElementType;
import java.lang.annotation.Repeatable;
import java.lang.annotation.Retention;
import java.lang.annotation.RetentionPolicy;
import java.lang.annotation.Target;

/**
 * A change of the class that breaks the words of a test, which has to fail then. Three texts: behind the first place of
 * the first one in the class (empty: from its beginning on), the second one is replaced by the third where it comes next.
 */
@Retention(RetentionPolicy.RUNTIME)
@Target(ElementType.METHOD)
@Repeatable(Break.All.class)
@interface Break {
    String[] value();

    @Retention(RetentionPolicy.RUNTIME)
    @Target(ElementType.METHOD)
    @interface All {
        Break[] value();
    }
}
