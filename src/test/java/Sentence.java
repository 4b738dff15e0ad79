import java.lang.annotation.ElementType;
import java.lang.annotation.Retention;
import java.lang.annotation.RetentionPolicy;
import java.lang.annotation.Target;

/** The sentence of ../shared/DOC.md that a test is for: the test fails if the sentence is broken. */
@Retention(RetentionPolicy.RUNTIME)
@Target(ElementType.METHOD)
@interface Sentence {
    /** The promises that say it, or that use the term that it tells of; none: all do. */
    int[] promise();

    /** Its own words, as they stand in those promises, or else under 'Terms'. */
    String says();
}
