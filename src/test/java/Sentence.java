import java.lang.annotation.ElementType;
import java.lang.annotation.Retention;
import java.lang.annotation.RetentionPolicy;
import java.lang.annotation.Target;

/** Stands beside a test: the sentence of the document to which it holds the class. */
@Retention(RetentionPolicy.RUNTIME)
@Target(ElementType.METHOD)
@interface Sentence {
    /** The promise's number; 0 for the chapters 'What it is' and 'Terms'. */
    int promise();

    /** The sentence, or the part of it, word for word. */
    String says();
}
