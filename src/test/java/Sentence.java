import java.lang.annotation.ElementType;
import java.lang.annotation.Retention;
import java.lang.annotation.RetentionPolicy;
import java.lang.annotation.Target;

/** Tells for which sentence of ../shared/DOC.md a test is. */
@Retention(RetentionPolicy.RUNTIME)
@Target(ElementType.METHOD)
@interface Sentence {
    /** The heading under which it stands, such as "Promise 2: come" or "CARTS". */
    String under();

    /** Its words, as they stand there. */
    String says();
}
