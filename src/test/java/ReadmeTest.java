import java.io.IOException;
import java.nio.file.Files;
import java.nio.file.Path;
import java.util.ArrayList;
import java.util.List;

/** The examples of README.md: they stand here word for word, and answer what README.md says. */
public final class ReadmeTest {
  private ReadmeTest() {
  }

  public static void main(String[] args) throws IOException {
    Bench.part("README.md");
    first();
    picture();
    List<String> here = blocks(Path.of("src/test/java/ReadmeTest.java"), "    // example", "    // end");
    List<String> there = blocks(Path.of("README.md"), "```java", "```");
    Bench.due("the examples", String.join("\n", there), String.join("\n", here));
    Bench.done();
  }

  private static void first() {
    // example
    HomeBoard board = new HomeBoard();
    board.burn(2, 1020, 0);          // the start word, at 8188, is in ROM K: 1024
    board.burn(2, 1021, 4);
    board.poke(1024, 169);           // LDA 5
    board.poke(1025, 5);
    board.power();
    int accesses = board.run(2);     // 2: two cycles, an access in each
    int a = board.register(0);       // 5
    // end
    Bench.due("accesses", accesses, 2);
    Bench.due("A", a, 5);
  }

  private static void picture() {
    // example
    int[] program = {
      169, 14, 141, 128, 26,         // LDA 14, STA 6784: the colour of cell 0
      169, 1, 141, 2, 26,            // LDA 1, STA 6658: GROUND
      169, 16, 141, 0, 26,           // LDA 16, STA 6656: ON, and SHIFT 0
      76, 15, 4,                     // JUMP to itself, at 1039
    };
    HomeBoard shown = new HomeBoard();
    for (int i = 0; i < program.length; i++) {
      shown.poke(1024 + i, program[i]);
    }
    shown.burn(2, 1021, 4);
    shown.burn(1, 8, 129);           // line 0 of character 1: its first and its last point
    shown.poke(0, 1);                // BASE is 0: the code of cell 0
    shown.power();
    shown.run(960);                  // a whole frame
    int ink = shown.point(8, 0);     // 14
    int ground = shown.point(8, 1);  // 1
    int waited = shown.stolen();     // 33: eleven cycles of each of three bad lines
    // end
    Bench.due("ink", ink, 14);
    Bench.due("ground", ground, 1);
    Bench.due("waited", waited, 33);
  }

  /** What stands between the marks, without the spaces before and behind each line. */
  private static List<String> blocks(Path file, String first, String last) throws IOException {
    List<String> found = new ArrayList<>();
    boolean inside = false;
    for (String line : Files.readAllLines(file)) {
      if (line.equals(inside ? last : first)) {
        inside = !inside;
      } else if (inside) {
        found.add(line.strip());
      }
    }
    return found;
  }
}
