/** "Terms", INSTRUCTIONS, and promise 10: the codes that are instructions, and that every other code jams. */
public final class JamTest {
  /** How many accesses each code makes when no branch is taken and no X carries; the others jam. */
  private static final int[][] KNOWN = {
    {5, 3}, {37, 3}, {69, 3}, {101, 3}, {133, 3}, {165, 3}, {197, 3}, {229, 3},
    {9, 2}, {41, 2}, {73, 2}, {105, 2}, {169, 2}, {201, 2}, {233, 2},
    {13, 4}, {45, 4}, {77, 4}, {109, 4}, {141, 4}, {173, 4}, {205, 4}, {237, 4},
    {29, 4}, {61, 4}, {93, 4}, {125, 4}, {157, 5}, {189, 4}, {221, 4}, {253, 4},
    {162, 2}, {160, 2}, {224, 2}, {192, 2}, {134, 3}, {132, 3}, {230, 5}, {198, 5},
    {16, 3}, {48, 2}, {80, 3}, {112, 2}, {144, 3}, {176, 2}, {208, 3}, {240, 2},
    {76, 3}, {32, 6}, {96, 6}, {64, 6}, {72, 3}, {104, 4},
    {24, 2}, {56, 2}, {88, 2}, {120, 2}, {216, 2}, {248, 2}, {170, 2}, {138, 2}, {168, 2}, {152, 2},
    {232, 2}, {200, 2}, {202, 2}, {136, 2}, {10, 2}, {74, 2}, {234, 2},
  };

  public static void main(String[] args) {
    int[] accesses = new int[256];
    for (int[] known : KNOWN) {
      accesses[known[0]] = known[1];
    }
    for (int code = 0; code < 256; code++) {
      if (accesses[code] == 0) {
        Bench.part("promise 10 and Terms, INSTRUCTIONS: 'All other codes JAM the processor'");
        jams(code);
      } else {
        Bench.part("promise 10 and Terms, INSTRUCTIONS: 'All other codes', not this one");
        makes(code, accesses[code]);
      }
    }
    Bench.done();
  }

  private static void jams(int code) {
    Board b = Bench.board(code, 234, 234);
    Bench.due("jammed before " + code, b.jammed(), false);
    Bench.due("run(5) of " + code, b.run(5), 1);
    Bench.due("jammed by " + code, b.jammed(), true);
    Bench.due("state behind " + code, Bench.state(b), "A0 X0 Y0 S255 F4 P1025");
    Bench.due("access of " + code, b.access(), 1024);
    Bench.due("stolen by " + code, b.stolen(), 0);
  }

  /** Wherever P is behind the instruction stands a code that jams: 15, 7, or the 0 of empty RAM. */
  private static void makes(int code, int accesses) {
    Board b = Bench.board(code, 15, 7);
    Bench.due("run of " + code, b.run(accesses), accesses);
    Bench.due("not jammed by " + code, b.jammed(), false);
    b.run(1);
    Bench.due("the code behind " + code, b.jammed(), true);
  }
}
