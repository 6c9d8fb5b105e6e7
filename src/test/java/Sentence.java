import java.lang.annotation.ElementType;
import java.lang.annotation.Retention;
import java.lang.annotation.RetentionPolicy;
import java.lang.annotation.Target;

/** The sentences of the document that a test is for, each told by words with which it alone begins. */
@Retention(RetentionPolicy.RUNTIME)
@Target(ElementType.METHOD)
@interface Sentence {
    /** The number of the promise under whose heading they stand, 0 for "Terms". */
    int of();

    String[] value();
}
