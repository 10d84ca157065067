/** Promise 16: when an interrupt begins, what it does, and how many are counted. */
public final class InterruptTest {
  private static final int RASTER = Bench.PICTURE + 1;
  private static final int FLAG = Bench.PICTURE + 4;
  private static final int ENABLE = Bench.PICTURE + 5;
  private static final int FLAGS = Bench.INTERFACE + 13;

  public static void main(String[] args) {
    sequence();
    stackWraps();
    notWithI();
    eachSource();
    againAndAgain();
    lookedAtWithTheFirstAccess();
    onlyBetweenInstructions();
    vectorByTheMap();
    farP();
    countSincePower();
    jammed();
    Bench.done();
  }

  /** The flag of line 0 stands and is enabled; I is set. */
  private static Board asked(int... program) {
    Board b = new Board();
    Bench.write(b, ENABLE, 1);
    Bench.restart(b, Bench.START, program);
    return b;
  }

  private static void sequence() {
    Board b = asked(56, 248, 169, 200, 88, 234);
    b.run(8);
    Bench.due("before", b.interrupts(), 0);
    Bench.due("accesses", Bench.trace(b, 8), "r1029 r1029 w511 w510 w509 r8190 r8191 r768");
    Bench.due("P's high byte", b.ram(511), 4);
    Bench.due("P's low byte", b.ram(510), 5);
    Bench.due("the flags with 32", b.ram(509), 128 + 32 + 8 + 1);
    Bench.due("how many", b.interrupts(), 1);
    Board bare = begun();
    bare.run(7);
    Bench.due("no flag but 32", bare.ram(509), 32);
    Bench.due("S by cycles", Bench.follow(begun(), 3, 7), "255 255 254 253 252 252 252");
    Bench.due("P by cycles", Bench.follow(begun(), 5, 7), "1025 1025 1025 1025 1025 1025 768");
    Bench.due("flags by cycles", Bench.follow(begun(), 4, 7), "0 0 0 0 4 4 4");
    Board c = begun();
    Bench.due("not begun", c.interrupts(), 0);
    c.run(1);
    Bench.due("begun with its first access", c.interrupts(), 1);
    c.run(6);
    Bench.due("state", Bench.state(c), "A0 X0 Y0 S252 F4 P768");
  }

  /** An interrupt is next. */
  private static Board begun() {
    Board b = asked(88, 234);
    b.run(2);
    return b;
  }

  private static void stackWraps() {
    Board b = asked(104, 88, 234);
    b.run(6);
    Bench.due("S wraps", Bench.trace(b, 7), "r1026 r1026 w256 w511 w510 r8190 r8191");
    Bench.due("S", b.register(3), 253);
  }

  private static void notWithI() {
    Board b = asked(234, 234, 76, 0, 4);
    b.run(500);
    Bench.due("with I set", b.interrupts(), 0);
    Board c = new Board();
    c.run(1);
    Bench.restart(c, Bench.START, 88, 76, 1, 4);
    c.run(500);
    Bench.due("flag set", c.look(FLAG), 1);
    Bench.due("not enabled", c.interrupts(), 0);
    Board d = new Board();
    Bench.write(d, ENABLE, 1);
    Bench.write(d, FLAG, 1);
    Bench.restart(d, Bench.START, 88, 76, 1, 4);
    d.run(500);
    Bench.due("enabled, no flag", d.interrupts(), 0);
  }

  private static void eachSource() {
    for (int flag = 1; flag <= 2; flag++) {
      for (int enabled = 0; enabled < 4; enabled++) {
        Board b = new Board();
        int control = Bench.INTERFACE + 13 + flag;
        Bench.write(b, Bench.INTERFACE + 2 + 2 * flag, 0);
        Bench.write(b, Bench.INTERFACE + 3 + 2 * flag, 0);
        Bench.write(b, control, 9);
        Bench.write(b, FLAGS, 128 + enabled);
        Bench.restart(b, Bench.START, 88, 76, 1, 4);
        b.poke(Bench.HANDLER, Bench.JAM);
        b.run(40);
        Bench.due("flag " + flag + ", enabled " + enabled, b.interrupts(), (flag & enabled) != 0 ? 1 : 0);
      }
    }
  }

  /** A handler that clears nothing is entered again behind its return. */
  private static void againAndAgain() {
    Board b = asked(88, 234, 234, 234, 234, 234);
    b.poke(Bench.HANDLER, 64);
    b.run(2);
    Bench.due("returned", Bench.trace(b, 14),
        "r1025 r1025 w511 w510 w509 r8190 r8191 r768 r769 r508 r509 r510 r511 r1025");
    Bench.due("the second begins with the first access behind it", b.interrupts(), 2);
    Board c = asked(88, 76, 1, 4);
    Bench.pokeAll(c, Bench.HANDLER, 72, 169, 1, 141, FLAG & 255, FLAG >> 8, 230, 40, 104, 64);
    Bench.runCycles(c, 960 * 3 + 40);
    Bench.due("one a frame", c.interrupts(), 4);
    Bench.due("the handler ran", c.ram(40), 4);
    Bench.due("S", c.register(3), 255);
  }

  /** The flag is set in cycle 0 before the processor: an instruction that begins there is put off. */
  private static void lookedAtWithTheFirstAccess() {
    for (int early = 0; early < 2; early++) {
      Board b = new Board();
      Bench.write(b, ENABLE, 1);
      Bench.write(b, FLAG, 1);
      Bench.write(b, RASTER, 20);
      Bench.runTo(b, 19, 24 - 4 - early);
      Bench.restart(b, Bench.START, 88, 234, 234, 234);
      b.run(4 + early);
      Bench.due("before line 20", b.interrupts(), 0);
      Bench.due("beam", b.beam(), 480);
      String want = early == 0 ? "r1026 r1026 w511" : "r1027 r1027 r1027";
      Bench.due("in line 20", Bench.trace(b, 3), want);
      Bench.due("interrupts", b.interrupts(), 1);
    }
    waitingInstructionSeesIt();
  }

  /** The code's read waits for the bus in line 9; the timer's flag comes in meanwhile. */
  private static void waitingInstructionSeesIt() {
    Board b = new Board();
    Bench.write(b, Bench.PICTURE, 17);
    Bench.write(b, Bench.INTERFACE + 4, 9);
    Bench.write(b, Bench.INTERFACE + 5, 0);
    Bench.write(b, FLAGS, 129);
    Bench.writeIn(b, 9, 0, Bench.INTERFACE + 14, 9);
    Bench.restart(b, Bench.START, 88, 234);
    b.run(2);
    Bench.due("waits", b.run(7), 0);
    Bench.due("no flag yet", b.look(FLAGS), 0);
    Bench.due("none yet", b.interrupts(), 0);
    b.run(1);
    Bench.due("flag", b.look(FLAGS), 129);
    Bench.due("begins with the access only", b.interrupts(), 0);
    b.run(3);
    Bench.due("begun", Bench.trace(b, 3), "r1025 r1025 w511");
    Bench.due("one", b.interrupts(), 1);
  }

  private static void onlyBetweenInstructions() {
    Board b = new Board();
    Bench.write(b, ENABLE, 1);
    Bench.write(b, FLAG, 1);
    Bench.write(b, RASTER, 20);
    Bench.runTo(b, 19, 19);
    Bench.restart(b, Bench.START, 88, 230, 200, 234);
    Bench.due("INC ends first", Bench.trace(b, 9), "r1024 r1025 r1025 r1026 r200 w200 w200 r1027 r1027");
    Bench.due("one", b.interrupts(), 1);
  }

  private static void vectorByTheMap() {
    Board b = asked(169, 4, 133, 1, 88, 234);
    b.poke(8190, 33);
    b.poke(8191, 225);
    b.run(14);
    Bench.due("P from RAM", b.register(5), 225 * 256 + 33);
  }

  private static void farP() {
    Board b = new Board();
    Bench.write(b, ENABLE, 1);
    Bench.restart(b, 512 + 8192 * 7, 88, 234);
    b.run(9);
    Bench.due("P's high byte of 8 bits", b.ram(511), 2 + 224);
    Bench.due("P's low byte", b.ram(510), 1);
  }

  private static void countSincePower() {
    Board b = begun();
    b.run(3);
    Bench.due("one", b.interrupts(), 1);
    b.power();
    Bench.due("none since power()", b.interrupts(), 0);
    Bench.due("and the old one is forgotten", Bench.trace(b, 3), "r1024 r1025 r1025");
  }

  private static void jammed() {
    Board b = new Board();
    Bench.write(b, RASTER, 20);
    Bench.write(b, FLAG, 1);
    Bench.write(b, ENABLE, 1);
    Bench.restart(b, Bench.START, 88, Bench.JAM);
    b.run(1000);
    Bench.due("a jammed one is not interrupted", b.interrupts(), 0);
    Bench.due("flag", b.look(FLAG), 129);
  }
}
