import java.io.IOException;
import java.util.List;

/** The document from its first line to its last: src/test/WALK.md quotes each sentence and shows what is answered. */
public final class WalkTest {
    private static final Checks C = new Checks();

    public static void main(String[] args) throws IOException, IllegalAccessException {
        Page page = new Page(C, "src/test/WALK.md");
        for (List<String> block : page.blocks()) {
            page.play(block);
        }
        C.finish("WalkTest");
    }
}
