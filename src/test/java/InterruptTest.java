/** "Terms", INTERRUPT, and promise 16: when one begins, what it does, and how many are counted. */
public final class InterruptTest {
  private static final int RASTER = Bench.PICTURE + 1;
  private static final int FLAG = Bench.PICTURE + 4;
  private static final int ENABLE = Bench.PICTURE + 5;
  private static final int FLAGS = Bench.INTERFACE + 13;

  public static void main(String[] args) {
    sequence();
    bothReadsAtP();
    flagsArePushed();
    stackWraps();
    notWithI();
    iFromTheStack();
    notWithoutFlagAndEnable();
    flagOrEnableOfNow();
    eachSource();
    allSourcesAtOnce();
    againAndAgain();
    lookedAtWithTheFirstAccess();
    onlyBetweenInstructions();
    vectorByTheMap();
    farP();
    countSincePower();
    jammed();
    Bench.done();
  }

  private static void part(String sentence) {
    Bench.part("promise 16 and Terms, INTERRUPT: '" + sentence + "'");
  }

  /** The flag of line 0 stands and is enabled; I is set. */
  private static Board asked(int... program) {
    Board b = new Board();
    Bench.write(b, ENABLE, 1);
    Bench.restart(b, Bench.START, program);
    return b;
  }

  private static void sequence() {
    part("seven accesses are made: .. then I is set, and reads at 8190 and 8191, which make P");
    Board b = asked(56, 248, 169, 200, 88, 234);
    b.run(8);
    Bench.due("before", b.interrupts(), 0);
    Bench.due("accesses", Bench.trace(b, 8), "r1029 r1029 w511 w510 w509 r8190 r8191 r768");
    Bench.due("P's high byte", b.ram(511), 4);
    Bench.due("P's low byte", b.ram(510), 5);
    Bench.due("the flags with 32", b.ram(509), 128 + 32 + 8 + 1);
    Bench.due("how many", b.interrupts(), 1);
    Board bare = begun();
    bare.run(7);
    Bench.due("no flag but 32", bare.ram(509), 32);
    Bench.due("S by cycles", Bench.follow(begun(), 3, 7), "255 255 254 253 252 252 252");
    Bench.due("P by cycles", Bench.follow(begun(), 5, 7), "1025 1025 1025 1025 1025 1025 768");
    Bench.due("flags by cycles", Bench.follow(begun(), 4, 7), "0 0 0 0 4 4 4");
    Board c = begun();
    Bench.due("not begun", c.interrupts(), 0);
    c.run(1);
    Bench.due("begun with its first access", c.interrupts(), 1);
    c.run(6);
    Bench.due("state", Bench.state(c), "A0 X0 Y0 S252 F4 P768");
  }

  /** An interrupt is next. */
  private static Board begun() {
    Board b = asked(88, 234);
    b.run(2);
    return b;
  }

  /** P is where reading clears the timers' flags; A's is set in the cycle of one of the first accesses. */
  private static void bothReadsAtP() {
    part("reads at P and P");
    for (int cycle = 0; cycle < 3; cycle++) {
      Board b = new Board();
      Bench.write(b, ENABLE, 1);
      Bench.writeAll(b, Bench.INTERFACE + 4, 7 + cycle, 0);
      Bench.write(b, Bench.INTERFACE + 14, 9);
      Bench.pokeAll(b, 256, 0, FLAGS & 255, FLAGS >> 8);
      Bench.restart(b, Bench.START, 64);
      b.run(6);
      Bench.due("the reads", Bench.trace(b, 3), "r6733 r6733 w258");
      Bench.due("flag of access " + (cycle + 1), b.look(FLAGS), cycle < 2 ? 0 : 1);
    }
  }

  /** RETURN FROM INTERRUPT takes the flags from the stack, and the interrupt puts them there again. */
  private static void flagsArePushed() {
    part("writes of .. the flags (with 32)");
    for (int flags = 0; flags < 256; flags++) {
      if ((flags & 4) == 0) {
        Board b = asked(64);
        Bench.pokeAll(b, 256, flags, 0, 6);
        b.run(6 + 7);
        Bench.due("flags " + flags, b.ram(256), flags & 203 | 32);
        Bench.due("flags behind it", b.register(4), flags & 203 | 4);
      }
    }
  }

  private static void stackWraps() {
    part("each at 256 + S (which falls by 1 each time) .. S wraps");
    String[] writes = {"w511 w510 w509", "w256 w511 w510", "w257 w256 w511", "w258 w257 w256", "w259 w258 w257"};
    for (int pulls = 0; pulls < 5; pulls++) {
      int[] program = {104, 104, 104, 104, 88, 234};
      int first = 4 - pulls;
      Board b = asked(program);
      Bench.restart(b, Bench.START + first);
      b.run(4 * pulls + 2);
      Bench.due("behind " + pulls + " pulls", Bench.trace(b, 7), "r1029 r1029 " + writes[pulls] + " r8190 r8191");
      Bench.due("S", b.register(3), 252 + pulls & 255);
      Bench.due("P's high byte", b.ram(256 + (255 + pulls & 255)), 4);
      Bench.due("P's low byte", b.ram(256 + (254 + pulls & 255)), 5);
      Bench.due("the flags", b.ram(256 + (253 + pulls & 255)), pulls == 0 ? 32 : 34);
    }
  }

  private static void notWithI() {
    part("and I is not set");
    Board b = asked(234, 234, 76, 0, 4);
    b.run(500);
    Bench.due("with I set", b.interrupts(), 0);
    Board again = asked(234, 88, 120, 234);
    Bench.due("between 88 and 120", Bench.trace(again, 6), "r1024 r1025 r1025 r1026 r1026 r1026");
    Board inHandler = asked(88, 234);
    Bench.pokeAll(inHandler, Bench.HANDLER, 234, 76, 0, 3);
    inHandler.run(500);
    Bench.due("not in the handler, as it set I", inHandler.interrupts(), 1);
  }

  private static void iFromTheStack() {
    part("and I is not set: as RETURN FROM INTERRUPT leaves it");
    Board clear = asked(64);
    Bench.pokeAll(clear, 256, 0, 0, 6);
    Bench.due("clear", Bench.trace(clear, 9), "r1024 r1025 r511 r256 r257 r258 r1536 r1536 w258");
    Board set = asked(64);
    Bench.pokeAll(set, 256, 4, 0, 6);
    set.poke(1536, 234);
    Bench.due("set", Bench.trace(set, 9), "r1024 r1025 r511 r256 r257 r258 r1536 r1537 r1537");
  }

  private static void notWithoutFlagAndEnable() {
    part("the picture chip's flag and ENABLE are set");
    Board c = new Board();
    c.run(1);
    Bench.restart(c, Bench.START, 88, 76, 1, 4);
    c.run(500);
    Bench.due("flag set", c.look(FLAG), 1);
    Bench.due("not enabled", c.interrupts(), 0);
    Board d = new Board();
    Bench.write(d, ENABLE, 1);
    Bench.write(d, FLAG, 1);
    Bench.restart(d, Bench.START, 88, 76, 1, 4);
    d.run(500);
    Bench.due("enabled, no flag", d.interrupts(), 0);
    Board e = asked(88, 234);
    e.run(9);
    Bench.due("both", e.interrupts(), 1);
  }

  /** What a write changes counts for the instruction that begins in the next cycle. */
  private static void flagOrEnableOfNow() {
    part("All this is looked at when the first access is made");
    Board cleared = asked(169, 1, 141, FLAG & 255, FLAG >> 8, 88, 234, 76, 6, 4);
    cleared.run(200);
    Bench.due("the flag was cleared", cleared.interrupts(), 0);
    Board disabled = asked(169, 0, 141, ENABLE & 255, ENABLE >> 8, 88, 234, 76, 6, 4);
    disabled.run(200);
    Bench.due("the ENABLE was cleared", disabled.interrupts(), 0);
    Board enabled = Bench.board(88, 169, 1, 141, ENABLE & 255, ENABLE >> 8, 234);
    Bench.due("the ENABLE is set last", Bench.trace(enabled, 11),
        "r1024 r1025 r1025 r1026 r1027 r1028 r1029 w6661 r1030 r1030 w511");
  }

  private static void allSourcesAtOnce() {
    part("the picture chip's flag and ENABLE are set or a flag of the interface chip that is enabled is: one or all");
    Board b = new Board();
    Bench.write(b, ENABLE, 1);
    Bench.writeAll(b, Bench.INTERFACE + 4, 0, 0, 0, 0);
    Bench.write(b, FLAGS, 131);
    Bench.writeAll(b, Bench.INTERFACE + 14, 9, 9);
    Bench.restart(b, Bench.START, 88, 234);
    b.poke(Bench.HANDLER, Bench.JAM);
    b.run(100);
    Bench.due("all three", b.interrupts(), 1);
    Bench.due("none is cleared by it", b.look(FLAGS) + b.look(FLAG), 131 + 129);
  }

  private static void eachSource() {
    part("or a flag of the interface chip that is enabled is");
    for (int flag = 1; flag <= 2; flag++) {
      for (int enabled = 0; enabled < 4; enabled++) {
        Board b = new Board();
        int control = Bench.INTERFACE + 13 + flag;
        Bench.write(b, Bench.INTERFACE + 2 + 2 * flag, 0);
        Bench.write(b, Bench.INTERFACE + 3 + 2 * flag, 0);
        Bench.write(b, control, 9);
        Bench.write(b, FLAGS, 128 + enabled);
        Bench.restart(b, Bench.START, 88, 76, 1, 4);
        b.poke(Bench.HANDLER, Bench.JAM);
        b.run(40);
        Bench.due("flag " + flag + ", enabled " + enabled, b.interrupts(), (flag & enabled) != 0 ? 1 : 0);
      }
    }
  }

  /** A handler that clears nothing is entered again behind its return. */
  private static void againAndAgain() {
    part("when an instruction begins: behind a return, too");
    Board b = asked(88, 234, 234, 234, 234, 234);
    b.poke(Bench.HANDLER, 64);
    b.run(2);
    Bench.due("returned", Bench.trace(b, 14),
        "r1025 r1025 w511 w510 w509 r8190 r8191 r768 r769 r508 r509 r510 r511 r1025");
    Bench.due("the second begins with the first access behind it", b.interrupts(), 2);
    Board c = asked(88, 76, 1, 4);
    Bench.pokeAll(c, Bench.HANDLER, 72, 169, 1, 141, FLAG & 255, FLAG >> 8, 230, 40, 104, 64);
    Bench.runCycles(c, 960 * 3 + 40);
    Bench.due("one a frame", c.interrupts(), 4);
    Bench.due("the handler ran", c.ram(40), 4);
    Bench.due("S", c.register(3), 255);
  }

  /** The flag is set in cycle 0 before the processor: an instruction that begins there is put off. */
  private static void lookedAtWithTheFirstAccess() {
    part("All this is looked at when the first access is made");
    for (int early = 0; early < 2; early++) {
      Board b = new Board();
      Bench.write(b, ENABLE, 1);
      Bench.write(b, FLAG, 1);
      Bench.write(b, RASTER, 20);
      Bench.runTo(b, 19, 24 - 4 - early);
      Bench.restart(b, Bench.START, 88, 234, 234, 234);
      b.run(4 + early);
      Bench.due("before line 20", b.interrupts(), 0);
      Bench.due("beam", b.beam(), 480);
      String want = early == 0 ? "r1026 r1026 w511" : "r1027 r1027 r1027";
      Bench.due("in line 20", Bench.trace(b, 3), want);
      Bench.due("interrupts", b.interrupts(), 1);
    }
    waitingInstructionSeesIt();
  }

  /** The code's read waits for the bus in line 9; the timer's flag comes in meanwhile. */
  private static void waitingInstructionSeesIt() {
    Board b = new Board();
    Bench.write(b, Bench.PICTURE, 17);
    Bench.write(b, Bench.INTERFACE + 4, 9);
    Bench.write(b, Bench.INTERFACE + 5, 0);
    Bench.write(b, FLAGS, 129);
    Bench.writeIn(b, 9, 0, Bench.INTERFACE + 14, 9);
    Bench.restart(b, Bench.START, 88, 234);
    b.run(2);
    Bench.due("waits", b.run(7), 0);
    Bench.due("no flag yet", b.look(FLAGS), 0);
    Bench.due("none yet", b.interrupts(), 0);
    b.run(1);
    Bench.due("flag", b.look(FLAGS), 129);
    Bench.due("begins with the access only", b.interrupts(), 0);
    b.run(3);
    Bench.due("begun", Bench.trace(b, 3), "r1025 r1025 w511");
    Bench.due("one", b.interrupts(), 1);
  }

  private static void onlyBetweenInstructions() {
    part("when an instruction begins");
    Board b = new Board();
    Bench.write(b, ENABLE, 1);
    Bench.write(b, FLAG, 1);
    Bench.write(b, RASTER, 20);
    Bench.runTo(b, 19, 19);
    Bench.restart(b, Bench.START, 88, 230, 200, 234);
    Bench.due("INC ends first", Bench.trace(b, 9), "r1024 r1025 r1025 r1026 r200 w200 w200 r1027 r1027");
    Bench.due("one", b.interrupts(), 1);
  }

  private static void vectorByTheMap() {
    part("reads at 8190 and 8191, which make P: by the map");
    Board b = asked(169, 4, 133, 1, 88, 234);
    b.poke(8190, 33);
    b.poke(8191, 225);
    b.run(14);
    Bench.due("P from RAM", b.register(5), 225 * 256 + 33);
  }

  private static void farP() {
    part("writes of P's high byte, its low byte: of 16 bits");
    Board b = new Board();
    Bench.write(b, ENABLE, 1);
    Bench.restart(b, 512 + 8192 * 7, 88, 234);
    b.run(9);
    Bench.due("P's high byte of 8 bits", b.ram(511), 2 + 224);
    Bench.due("P's low byte", b.ram(510), 1);
    Board last = new Board();
    Bench.write(last, ENABLE, 1);
    Bench.restart(last, 65534);
    last.burn(2, 1022, 88);
    last.run(9);
    Bench.due("P 65535: high byte", last.ram(511), 255);
    Bench.due("P 65535: low byte", last.ram(510), 255);
    Bench.due("P behind it", last.register(5), 256 * 3 + 88);
  }

  private static void countSincePower() {
    part("How many interrupts began since power()");
    Board b = begun();
    b.run(3);
    Bench.due("one", b.interrupts(), 1);
    b.power();
    Bench.due("none since power()", b.interrupts(), 0);
    Bench.due("and the old one is forgotten", Bench.trace(b, 3), "r1024 r1025 r1025");
  }

  private static void jammed() {
    part("JAM the processor: it makes no access any more");
    Board b = new Board();
    Bench.write(b, RASTER, 20);
    Bench.write(b, FLAG, 1);
    Bench.write(b, ENABLE, 1);
    Bench.restart(b, Bench.START, 88, Bench.JAM);
    b.run(1000);
    Bench.due("a jammed one is not interrupted", b.interrupts(), 0);
    Bench.due("flag", b.look(FLAG), 129);
  }
}
