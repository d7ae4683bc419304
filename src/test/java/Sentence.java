import java.lang.annotation.ElementType;
import java.lang.annotation.Retention;
import java.lang.annotation.RetentionPolicy;
import java.lang.annotation.Target;

/** Names the sentence of ../shared/DOC.md that a test holds the class to. */
@Retention(RetentionPolicy.RUNTIME)
@Target(ElementType.METHOD)
@interface Sentence {
    /** Where it stands: one of Document.parts(). */
    String of();

    /** Its words, or those of it that name the case, just as they stand there. */
    String says();
}
