import java.lang.annotation.ElementType;
import java.lang.annotation.Repeatable;
import java.lang.annotation.Retention;
import java.lang.annotation.RetentionPolicy;
import java.lang.annotation.Target;

/** The sentences of the document that a test is for: it fails if one of them is broken. */
@Retention(RetentionPolicy.RUNTIME)
@Target(ElementType.METHOD)
@Repeatable(Sentence.Several.class)
@interface Sentence {
    /** Where they stand: the heading, up to its colon if it has one. */
    String of();

    /** Their words, as they stand there. */
    String[] says();

    /** Sentences that stand under several headings. */
    @Retention(RetentionPolicy.RUNTIME)
    @Target(ElementType.METHOD)
    @interface Several {
        Sentence[] value();
    }
}
