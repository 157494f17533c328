import java.lang.annotation.ElementType;
import java.lang.annotation.Retention;
import java.lang.annotation.RetentionPolicy;
import java.lang.annotation.Target;

/** Marks the test of one sentence of the document that names a boundary case; Edges runs it. */
@Retention(RetentionPolicy.RUNTIME)
@Target(ElementType.METHOD)
@interface Edge {
    /** The promise whose answers show whether the sentence holds. */
    int promise();

    /** The sentence, as the document has it (under the promise, or under "Terms"); where it says it twice, both. */
    String[] says();
}
