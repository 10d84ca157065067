/** What the tests share: counting wrong answers, and small programs on a board. */
final class Bench {
  static final int START = 1024;
  static final int HANDLER = 768;
  static final int PICTURE = 6656;
  static final int INTERFACE = 6720;
  static final int COLOURS = 6784;
  static final int WRITE = 8192;
  static final int JAM = 2;
  private static int wrong = 0;

  private Bench() {
  }

  static void due(String what, long got, long want) {
    if (got != want) {
      wrong++;
      System.out.println(what + " answered " + got + ", due is " + want);
    }
  }

  static void due(String what, boolean got, boolean want) {
    due(what, got ? 1 : 0, want ? 1 : 0);
  }

  static void due(String what, String got, String want) {
    if (!got.equals(want)) {
      wrong++;
      System.out.println(what + " answered " + got + ", due is " + want);
    }
  }

  static void done() {
    if (wrong != 0) {
      System.out.println(wrong + " answers are not as due");
      System.exit(1);
    }
  }

  static int[] bytes(int... values) {
    return values;
  }

  static void pokeAll(HomeBoard b, int at, int... values) {
    for (int i = 0; i < values.length; i++) {
      b.poke((at + i) & 8191, values[i]);
    }
  }

  /** Sets the start word (8188), and the interrupt's (8190) to HANDLER, in ROM K and in the RAM below it. */
  static void setVectors(HomeBoard b, int start) {
    int[] words = {start & 255, start >> 8, HANDLER & 255, HANDLER >> 8};
    for (int i = 0; i < 4; i++) {
      b.burn(2, 1020 + i, words[i]);
      b.poke(8188 + i, words[i]);
    }
  }

  /** A board whose program stands at START, powered. */
  static HomeBoard board(int... program) {
    return boardAt(START, program);
  }

  static HomeBoard boardAt(int start, int... program) {
    HomeBoard b = new HomeBoard();
    restart(b, start, program);
    return b;
  }

  static void restart(HomeBoard b, int start, int... program) {
    setVectors(b, start);
    pokeAll(b, start, program);
    b.power();
  }

  /** The next n cycles, a word each: r or w with the address, or - for a cycle without an access. */
  static String trace(HomeBoard b, int n) {
    StringBuilder text = new StringBuilder();
    for (int i = 0; i < n; i++) {
      String word = "-";
      if (b.run(1) == 1) {
        int access = b.access();
        word = access >= WRITE ? "w" + (access - WRITE) : "r" + access;
      }
      text.append(i == 0 ? "" : " ").append(word);
    }
    return text.toString();
  }

  /** What a register holds behind each of the next n cycles. */
  static String follow(HomeBoard b, int which, int n) {
    StringBuilder text = new StringBuilder();
    for (int i = 0; i < n; i++) {
      b.run(1);
      text.append(i == 0 ? "" : " ").append(b.register(which));
    }
    return text.toString();
  }

  static String state(HomeBoard b) {
    return "A" + b.register(0) + " X" + b.register(1) + " Y" + b.register(2) + " S" + b.register(3)
        + " F" + b.register(4) + " P" + b.register(5);
  }

  /** Lets a program write one byte; the processor ends jammed, with its code at 512. */
  static void write(HomeBoard b, int at, int value) {
    restart(b, 512, 169, value, 141, at & 255, at >> 8, JAM);
    for (int i = 0; i < 40 && b.access() != (at & 8191) + WRITE; i++) {
      b.run(1);
    }
    b.run(1);
  }

  /** Lets a program write one byte in just this cycle, if no cycle before it is stolen. */
  static void writeIn(HomeBoard b, int line, int cycle, int at, int value) {
    runTo(b, line, cycle - 5);
    restart(b, 512, 169, value, 141, at & 255, at >> 8, JAM);
    b.run(5);
    due("beam before the write", b.beam(), line * 24 + cycle);
    b.run(1);
    due("the write's access", b.access(), (at & 8191) + WRITE);
  }

  /** Lets a program read one byte: what A holds then. */
  static int read(HomeBoard b, int at) {
    restart(b, 512, 173, at & 255, at >> 8, JAM);
    for (int i = 0; i < 40 && b.access() != (at & 8191); i++) {
      b.run(1);
    }
    int got = b.register(0);
    b.run(1);
    return got;
  }

  static void runCycles(HomeBoard b, int n) {
    int left = n;
    while (left > 0) {
      int now = Math.min(left, 1000);
      b.run(now);
      left -= now;
    }
  }

  /** Runs until this cycle is the next one. */
  static void runTo(HomeBoard b, int line, int cycle) {
    int n = Math.floorMod(line * 24 + cycle - b.beam(), 960);
    if (n > 0) {
      b.run(n);
    }
  }
}
