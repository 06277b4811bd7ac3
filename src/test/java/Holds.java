import java.lang.annotation.ElementType;
import java.lang.annotation.Retention;
import java.lang.annotation.RetentionPolicy;
import java.lang.annotation.Target;

/** Says which words of the document a test holds; SentencesTest runs the tests that bear it. */
@Retention(RetentionPolicy.RUNTIME)
@Target(ElementType.METHOD)
@interface Holds {
    /** A heading of the document: "Terms", "Promise 2". */
    String in();

    /** The words, as they stand under that heading. */
    String says();
}
