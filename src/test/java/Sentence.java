import java.lang.annotation.ElementType;
import java.lang.annotation.Retention;
import java.lang.annotation.RetentionPolicy;
import java.lang.annotation.Target;

/** Marks a test that stands for one sentence of the document alone. */
@Retention(RetentionPolicy.RUNTIME)
@Target(ElementType.METHOD)
@interface Sentence {
    /** Where it stands: "Promise 7", "Terms 3", "What it is", "The public face". */
    String of();

    /** The sentence, or the part of it that is meant, in the document's own words. */
    String says();
}
