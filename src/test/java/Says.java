import java.lang.annotation.ElementType;
import java.lang.annotation.Retention;
import java.lang.annotation.RetentionPolicy;
import java.lang.annotation.Target;

/**
 * What a test of an edge holds the class to: a promise, and words of ../shared/DOC.md, out of that promise's own part
 * or out of the part 'Terms'. EdgesTest runs the tests that bear it.
 */
@Retention(RetentionPolicy.RUNTIME)
@Target(ElementType.METHOD)
@interface Says {
    int promise();

    String value();
}
