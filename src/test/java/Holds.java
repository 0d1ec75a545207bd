import java.lang.annotation.ElementType;
import java.lang.annotation.Retention;
import java.lang.annotation.RetentionPolicy;
import java.lang.annotation.Target;

/** Says which sentence of the document a test holds, in the document's words, and which promises it belongs to. */
@Retention(RetentionPolicy.RUNTIME)
@Target(ElementType.METHOD)
@interface Holds {
    int[] promise();

    String says();
}
