import java.lang.annotation.ElementType;
import java.lang.annotation.Retention;
import java.lang.annotation.RetentionPolicy;
import java.lang.annotation.Target;

/** Names the sentence of the document that a test holds. */
@Retention(RetentionPolicy.RUNTIME)
@Target(ElementType.METHOD)
@interface Holds {
    /** The part of the document: "What it is", "Terms", or "Promise 2" and its like. */
    String in();

    /** Words of one sentence or line of that part, as they stand there. */
    String says();
}
