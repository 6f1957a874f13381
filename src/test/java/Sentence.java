import java.lang.annotation.ElementType;
import java.lang.annotation.Retention;
import java.lang.annotation.RetentionPolicy;
import java.lang.annotation.Target;

/** The one sentence of the document that a test stands for, word by word; a sentence may have several tests. */
@Retention(RetentionPolicy.RUNTIME)
@Target(ElementType.METHOD)
@interface Sentence {
    /** The number of the promise, 0 for what stands before the promises. */
    int promise() default 0;

    String value();
}
