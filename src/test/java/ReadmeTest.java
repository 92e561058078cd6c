import java.io.IOException;
import java.nio.file.Files;
import java.nio.file.Path;
import java.util.List;

/** The example of README.md: each call stands there in this order and answers what it says. */
public final class ReadmeTest {
    private static final Due due = new Due("ReadmeTest");
    private static List<String> lines;
    private static int next = 0;

    public static void main(String[] args) throws IOException {
        lines = Files.readAllLines(Path.of("README.md"));
        line("CapMembrane c = new CapMembrane(16, 16);", "");
        CapMembrane c = new CapMembrane(16, 16);
        int guest = c.newDomain(0);
        row("int guest = c.newDomain(0);", guest, "1");
        int box = c.newBox(0);
        row("int box = c.newBox(0);", box, "1");
        row("c.give(guest, 0, box);", c.give(guest, 0, box), "true");
        row("c.reg(guest, 0);", c.reg(guest, 0), "2");
        row("c.emit(guest, CapMembrane.OP_NEW, 1, 0);", c.emit(guest, CapMembrane.OP_NEW, 1, 0), "true");
        row("c.emit(guest, CapMembrane.OP_SET0, 0, 1);", c.emit(guest, CapMembrane.OP_SET0, 0, 1), "true");
        row("c.run(guest, 10);", c.run(guest, 10), "2");
        row("c.slot(box, 0);", c.slot(box, 0), "4");
        row("c.link(4);", c.link(4), "3");
        row("c.revoke(guest);", c.revoke(guest), "true");
        row("c.emit(guest, CapMembrane.OP_POKE, 0, 0);", c.emit(guest, CapMembrane.OP_POKE, 0, 0), "true");
        row("c.run(guest, 10);", c.run(guest, 10), "0");
        row("c.status(guest);", c.status(guest), "2");
        row("c.run(guest, 10);", c.run(guest, 10), "-1");
        line("```", "");
        due.end();
    }

    private static void row(String call, Object got, String want) {
        line(call, want);
        if (!want.equals(String.valueOf(got))) {
            due.tell(call + " answered " + got + ", due is " + want);
        }
    }

    /** The next line of the example is this call, with this answer as its comment's first word. */
    private static void line(String call, String answer) {
        if (next == 0) {
            next = lines.indexOf("```java") + 1;
        }
        String line = next < lines.size() ? lines.get(next) : "";
        next++;
        if (!line.startsWith(call) || !line.matches(".*// " + answer + "\\b.*|```")) {
            due.tell("README.md has not " + call + " // " + answer + " but " + line);
        }
    }
}
