import java.lang.annotation.Retention;
import java.lang.annotation.RetentionPolicy;

/** The part of the document and the words of it that a test is about: "Promise 2: fewer stripes are left". */
@Retention(RetentionPolicy.RUNTIME)
@interface Says {
    String value();
}
