import java.lang.annotation.ElementType;
import java.lang.annotation.Retention;
import java.lang.annotation.RetentionPolicy;
import java.lang.annotation.Target;

/** On a test of words of the document that name a boundary: the promise that they bind, and the words. */
@Retention(RetentionPolicy.RUNTIME)
@Target(ElementType.METHOD)
@interface Edge {
    int promise();

    /** As they stand in ../shared/DOC.md, outside the promises or under the promise's own heading. */
    String[] says();
}
