import java.lang.annotation.ElementType;
import java.lang.annotation.Retention;
import java.lang.annotation.RetentionPolicy;
import java.lang.annotation.Target;

/** Marks a test with the words of the document that it holds the program to. */
@Retention(RetentionPolicy.RUNTIME)
@Target(ElementType.METHOD)
@interface Says {
    /** The promise by which these words are tested. */
    int promise();

    /** Words that stand under that promise. */
    String[] value() default {};

    /** Words that stand under 'Terms'. */
    String[] terms() default {};
}
