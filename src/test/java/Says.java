import java.lang.annotation.ElementType;
import java.lang.annotation.Retention;
import java.lang.annotation.RetentionPolicy;
import java.lang.annotation.Target;

/** Which sentence of the document a test holds the class to, word by word, and of which promise's call. */
@Retention(RetentionPolicy.RUNTIME)
@Target(ElementType.METHOD)
@interface Says {
    int promise();

    /** Stands in that promise's section, or in the document's Terms, or in what it begins with. */
    String sentence();
}
