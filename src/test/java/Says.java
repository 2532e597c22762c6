import java.lang.annotation.Retention;
import java.lang.annotation.RetentionPolicy;

/** The sentence of the document, or a part of one, whose boundary case a test is of. */
@Retention(RetentionPolicy.RUNTIME)
@interface Says {
    /** The section's heading, without what stands behind its colon. */
    String in();

    String[] text();
}
