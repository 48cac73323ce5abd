import java.lang.annotation.ElementType;
import java.lang.annotation.Retention;
import java.lang.annotation.RetentionPolicy;
import java.lang.annotation.Target;

/** Which words of the document a test holds the class to: it fails if they were broken. */
@Retention(RetentionPolicy.RUNTIME)
@Target(ElementType.METHOD)
@interface Says {
    /** Where they stand: "What it is", "Terms", "Terms 1" to "Terms 5", "Promise 1" to "Promise 27". */
    String at();

    String[] words();
}
