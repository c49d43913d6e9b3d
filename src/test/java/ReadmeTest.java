import java.io.IOException;
import java.nio.file.Files;
import java.nio.file.Path;
import java.util.List;

/** The examples of README.md answer what it says, and stand here as they stand there. */
final class ReadmeTest {
    private static final Path README = Path.of("README.md");
    private static final Path THIS = Path.of("src/test/java/ReadmeTest.java");

    private ReadmeTest() {
    }

    public static void main(String[] args) throws IOException {
        program();
        pagedProgram();
        sameLines();
        Check.finish();
    }

    private static void program() {
        PageMachine machine = new PageMachine();
        machine.poke(0x400, 0x24010005);
        machine.poke(0x404, 0x00211020);
        machine.set(0, 34, 0x80000400);
        int faults = machine.step(2);
        int ten = machine.get(0, 2);
        Check.same("faults", faults, 0);
        Check.same("ten", ten, 10);
    }

    private static void pagedProgram() {
        PageMachine paged = new PageMachine();
        paged.handler();
        paged.set(1, 4, 0x80000000);
        paged.poke(0x2000, 8 << 6 | 2);
        paged.poke(0x2004, 9 << 6 | 6);
        paged.poke(0x8000, 0x3C010040);
        paged.poke(0x8004, 0x8C221000);
        paged.poke(0x9000, 1234);
        paged.set(1, 12, 0x10);
        paged.set(0, 34, 0x00400000);
        long before = paged.translate(0x00400000, 0);
        int refills = paged.step(1 + 7 + 2);
        long after = paged.translate(0x00401000, 1);
        int word = paged.get(0, 2);
        Check.same("before", before, -103);
        Check.same("refills", refills, 1);
        Check.same("after", after, 0x9000);
        Check.same("word", word, 1234);
    }

    private static void sameLines() throws IOException {
        String here = Files.readString(THIS);
        List<String> lines = Files.readAllLines(README);
        boolean inExample = false;
        for (String line : lines) {
            if (line.startsWith("```")) {
                inExample = line.equals("```java");
            } else if (inExample) {
                String code = line.replaceFirst("//.*", "").strip();
                Check.isTrue("an example's line is run here: " + code, here.contains("        " + code + "\n"));
            }
        }
    }
}
