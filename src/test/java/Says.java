import java.lang.annotation.Retention;
import java.lang.annotation.RetentionPolicy;

/** The words of the document that a test by itself holds the program to. */
@Retention(RetentionPolicy.RUNTIME)
@interface Says {
    /** Where they stand: "Promise 2", or "Terms 5" for a section of the terms. */
    String in();

    String words();
}
