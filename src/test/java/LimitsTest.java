import java.io.IOException;
import java.nio.file.Path;

/** Every sentence of the document that names a boundary case, with a test of its own. */
public final class LimitsTest {
    public static void main(String[] args) throws IOException {
        Sentences.read(Path.of("../shared/DOC.md"));
        Machines.test();
        TextLimits.test();
        MachineLimits.test();
        AccountLimits.test();
        ChangeLimits.test();
        Sentences.allAreQuoted();
        Check.end();
    }
}
