import java.lang.annotation.ElementType;
import java.lang.annotation.Retention;
import java.lang.annotation.RetentionPolicy;
import java.lang.annotation.Target;

/** The promise and the sentence of the document that a test is about. */
@Retention(RetentionPolicy.RUNTIME)
@Target(ElementType.METHOD)
@interface Sentence {
    int promise();

    /** The whole sentence, as it stands under the promise or in the document's other sections. */
    String words();

    /** The words of it that the test is about, if these are not all. */
    String part() default "";
}
