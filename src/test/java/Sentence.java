import java.lang.annotation.ElementType;
import java.lang.annotation.Retention;
import java.lang.annotation.RetentionPolicy;
import java.lang.annotation.Target;

/** The words of the document that a test is for, so that a reader finds the test of a sentence by its words. */
@Retention(RetentionPolicy.RUNTIME)
@Target(ElementType.METHOD)
@interface Sentence {
    /** The heading under which the words stand: "Terms", "PLOTS", "Promise 2" and their like. */
    String of();

    /** One or more rows of words, each as it stands in the document. */
    String[] words();
}
