/** What the tests share: counting wrong answers, and small programs on a board. */
final class Bench {
  static final int START = 1024;
  static final int HANDLER = 768;
  static final int PICTURE = 6656;
  static final int INTERFACE = 6720;
  static final int COLOURS = 6784;
  static final int WRITE = 8192;
  static final int JAM = 2;
  private static final int HELPER = 512;
  private static final int TABLE = 1600;
  private static int wrong = 0;
  private static String part = "";

  private Bench() {
  }

  /** Which sentence of the document the tests that follow belong to. */
  static void part(String name) {
    part = name + ": ";
  }

  static void due(String what, long got, long want) {
    if (got != want) {
      wrong(what, "" + got, "" + want);
    }
  }

  static void due(String what, boolean got, boolean want) {
    if (got != want) {
      wrong(what, "" + got, "" + want);
    }
  }

  static void due(String what, String got, String want) {
    if (!got.equals(want)) {
      wrong(what, got, want);
    }
  }

  private static void wrong(String what, String got, String want) {
    wrong++;
    System.out.println(part + what + " answered " + got + ", due is " + want);
  }

  static void done() {
    if (wrong != 0) {
      System.out.println(wrong + " answers are not as due");
      System.exit(1);
    }
  }

  static int[] bytes(int... values) {
    return values;
  }

  static void pokeAll(Board b, int at, int... values) {
    for (int i = 0; i < values.length; i++) {
      b.poke((at + i) & 8191, values[i]);
    }
  }

  /** Sets the start word (8188), and the interrupt's (8190) to HANDLER, in ROM K and in the RAM below it. */
  static void setVectors(Board b, int start) {
    int[] words = {start & 255, start >> 8, HANDLER & 255, HANDLER >> 8};
    for (int i = 0; i < 4; i++) {
      if (b.ram(8188 + i) != words[i]) {
        b.burn(2, 1020 + i, words[i]);
        b.poke(8188 + i, words[i]);
      }
    }
  }

  /** A board whose program stands at START, powered. */
  static Board board(int... program) {
    return boardAt(START, program);
  }

  static Board boardAt(int start, int... program) {
    Board b = new Board();
    restart(b, start, program);
    return b;
  }

  static void restart(Board b, int start, int... program) {
    setVectors(b, start);
    pokeAll(b, start, program);
    b.power();
  }

  /** The next n cycles, a word each: r or w with the address, or - for a cycle without an access. */
  static String trace(Board b, int n) {
    StringBuilder text = new StringBuilder();
    for (int i = 0; i < n; i++) {
      String word = "-";
      if (b.run(1) == 1) {
        int access = b.access();
        word = access >= WRITE ? "w" + (access - WRITE) : "r" + access;
      }
      text.append(i == 0 ? "" : " ").append(word);
    }
    return text.toString();
  }

  /** What a register holds behind each of the next n cycles. */
  static String follow(Board b, int which, int n) {
    StringBuilder text = new StringBuilder();
    for (int i = 0; i < n; i++) {
      b.run(1);
      text.append(i == 0 ? "" : " ").append(b.register(which));
    }
    return text.toString();
  }

  static String state(Board b) {
    return "A" + b.register(0) + " X" + b.register(1) + " Y" + b.register(2) + " S" + b.register(3)
        + " F" + b.register(4) + " P" + b.register(5);
  }

  /** Lets a program write one byte; the processor ends jammed, in the cycle behind the write. */
  static void write(Board b, int at, int value) {
    restart(b, HELPER, 169, value, 141, at & 255, at >> 8, JAM);
    b.run(6);
    awaitAccess(b, (at & 8191) + WRITE);
    b.run(1);
  }

  /** Lets a program write one byte in just this cycle, if no cycle before it is stolen. */
  static void writeIn(Board b, int line, int cycle, int at, int value) {
    runTo(b, line, cycle - 5);
    restart(b, HELPER, 169, value, 141, at & 255, at >> 8, JAM);
    b.run(5);
    due("beam before the write", b.beam(), line * 24 + cycle);
    b.run(1);
    due("the write's access", b.access(), (at & 8191) + WRITE);
  }

  /** Lets a program read one byte: what A holds then. */
  static int read(Board b, int at) {
    restart(b, HELPER, 173, at & 255, at >> 8, JAM);
    b.run(4);
    awaitAccess(b, at & 8191);
    int got = b.register(0);
    b.run(1);
    return got;
  }

  /** A bad line may have put off the helper's last access. */
  private static void awaitAccess(Board b, int access) {
    for (int i = 0; i < 24 && b.access() != access; i++) {
      b.run(1);
    }
  }

  /** Lets a program write many bytes, one behind the other; it ends jammed. */
  static void writeAll(Board b, int at, int... values) {
    pokeAll(b, TABLE, values);
    restart(b, HELPER, 162, 0, 189, TABLE & 255, TABLE >> 8, 157, at & 255, at >> 8,
        232, 224, values.length & 255, 208, 245, JAM);
    awaitJam(b);
  }

  /** Lets a program write one byte at n addresses (1 to 256), one behind the other; it ends jammed. */
  static void fill(Board b, int at, int n, int value) {
    restart(b, HELPER, 162, 0, 169, value, 157, at & 255, at >> 8, 232, 224, n & 255, 208, 248, JAM);
    awaitJam(b);
  }

  private static void awaitJam(Board b) {
    for (int i = 0; i < 20 && !b.jammed(); i++) {
      b.run(500);
    }
  }

  static void runCycles(Board b, int n) {
    int left = n;
    while (left > 0) {
      int now = Math.min(left, 1000);
      b.run(now);
      left -= now;
    }
  }

  /** Runs until this cycle is the next one. */
  static void runTo(Board b, int line, int cycle) {
    int n = Math.floorMod(line * 24 + cycle - b.beam(), 960);
    if (n > 0) {
      b.run(n);
    }
  }
}
