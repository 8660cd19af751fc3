import java.io.IOException;
import java.nio.file.Files;
import java.nio.file.Path;
import java.util.ArrayList;
import java.util.List;

/** The example of README.md: each of its lines is one of this test too, and gives the answer that it tells. */
public final class ReadmeTest {
    private static final Due due = new Due();
    private static final Path README = Path.of("README.md");
    private static final Path THIS = Path.of("src", "test", "java", "ReadmeTest.java");

    public static void main(String[] args) throws IOException {
        example();
        List<String> here = codeOf(Files.readAllLines(THIS));
        List<String> told = codeOf(exampleOf(Files.readAllLines(README)));
        due.equal("README.md has an example of some lines", told.size() > 5 ? 1 : 0, 1);
        for (String line : told) {
            due.equal("the line " + line + " is in this test", here.contains(line) ? 1 : 0, 1);
        }
        due.end("ReadmeTest");
    }

    private static void example() {
        SlicedReads x = new SlicedReads();
        x.refer(0b11_10_01_00, 4);
        x.start(1);
        x.edit(0, 2);
        x.edit(1, 0);
        int number = x.finish();
        int bytes = x.pack();
        int blocks = x.blocks();
        int shelved = x.unpack(0);
        int base = x.base(0, 2, true);
        int depth = x.depth(3);
        due.equal("finish()", number, 0);
        due.equal("pack()", bytes, 8);
        due.equal("blocks()", blocks, 1);
        due.equal("unpack(0)", shelved, 1);
        due.equal("base(0, 2, true)", base, 0);
        due.equal("depth(3)", depth, 1);
    }

    /** The lines of the first block of Java. */
    private static List<String> exampleOf(List<String> readme) {
        int begin = readme.indexOf("```java") + 1;
        int length = readme.subList(begin, readme.size()).indexOf("```");
        return readme.subList(begin, begin + Math.max(0, length));
    }

    private static List<String> codeOf(List<String> lines) {
        List<String> code = new ArrayList<>();
        for (String line : lines) {
            code.add(line.replaceAll("//.*", "").strip());
        }
        return code;
    }
}
