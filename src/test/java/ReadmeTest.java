import java.io.IOException;
import java.nio.file.Files;
import java.nio.file.Path;
import java.util.ArrayList;
import java.util.List;

/** The example of README.md: its lines are the ones that are run here, and answer what it says. */
public final class ReadmeTest {
    private static final List<String> EXAMPLE = new ArrayList<>();

    public static void main(String[] args) throws IOException {
        Check.due("the lines of README.md", run(), linesOfReadme());
        Check.end();
    }

    private static String run() {
        EXAMPLE.add("StateKeeper world = new StateKeeper(4); // 4 cells, all 0; a snapshot of step 0");
        StateKeeper world = new StateKeeper(4);
        line("world.drift(0, 1, 0.5f);", 1, world.drift(0, 1, 0.5f));
        line("world.every(10);", 0, world.every(10));
        line("world.input(0, 0, 80f);", 1, world.input(0, 0, 80f));
        line("world.step(25);", 25, world.step(25));
        Check.due("cell(1) before late()", 1000f, world.cell(1));
        line("world.late(12, 0, 1, -16f);", 15, world.late(12, 0, 1, -16f));
        line("world.cell(1);", 896f, world.cell(1));
        line("world.back(10);", 1, world.back(10));
        line("world.cell(1);", 400f, world.cell(1));
        line("world.forget(10);", 1, world.forget(10));
        line("world.step(15);", 25, world.step(15));
        line("world.cell(1);", 1000f, world.cell(1));
        return String.join("\n", EXAMPLE);
    }

    private static void line(String call, int due, int got) {
        Check.due(call, due, got);
        EXAMPLE.add(call + " // " + due);
    }

    private static void line(String call, float due, float got) {
        Check.due(call, due, got);
        EXAMPLE.add(call + " // " + due);
    }

    /** The lines of its one block of Java, up to the text behind the answer. */
    private static String linesOfReadme() throws IOException {
        List<String> found = new ArrayList<>();
        boolean inside = false;
        for (String line : Files.readAllLines(Path.of("README.md"))) {
            if (line.startsWith("```")) {
                inside = line.equals("```java");
            } else if (inside && !line.isBlank()) {
                found.add(line.replaceAll(" +//", " //").replaceAll(": .*", ""));
            }
        }
        return String.join("\n", found);
    }
}
