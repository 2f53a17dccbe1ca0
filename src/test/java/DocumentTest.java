import java.io.IOException;
import java.nio.file.Path;

/** Every sentence of the document, with a test of its own. */
public final class DocumentTest {
    public static void main(String[] args) throws IOException {
        Sentences.read(Path.of("../shared/DOC.md"));
        Machines.test();
        OrdinaryAnswers.test();
        TextLimits.test();
        MachineLimits.test();
        AccountLimits.test();
        ChangeLimits.test();
        Sentences.allAreQuoted();
        Check.end();
    }
}
