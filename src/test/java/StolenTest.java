/** "Terms", THE PROCESSOR, and promise 15: reads wait while the bus is wanted, writes do not. */
public final class StolenTest {
  private static final int CONTROL = Bench.PICTURE;
  private static final int BAD_LINE = 9;
  private static final String ELEVEN = "- - - - - - - - - - -";

  public static void main(String[] args) {
    cyclesOfABadLine();
    onlyBadLines();
    countsSincePower();
    jammedWaitsForNothing();
    storesGoOn();
    changeGoesOn();
    stackWritesGoOn();
    interruptWritesGoOn();
    readsOfEachKindWait();
    waitingReadIsMadeLate();
    Bench.done();
  }

  private static void part(String sentence) {
    Bench.part("promise 15 and Terms, THE PROCESSOR: '" + sentence + "'");
  }

  /** A board that is on, with bad lines 9, 17 and 25, the beam n cycles before cycle 3 of line 9. */
  private static Board before(int n, int... program) {
    Board b = new Board();
    Bench.write(b, CONTROL, 17);
    Bench.runTo(b, BAD_LINE - 1, 0);
    Bench.runTo(b, BAD_LINE, 3 - n);
    for (int i = 0; i < program.length; i++) {
      b.poke(Bench.START + i, program[i]);
    }
    Bench.setVectors(b, Bench.START);
    b.power();
    return b;
  }

  private static void cyclesOfABadLine() {
    part("If the bus is wanted and the access is a read, it is not made in this cycle, but waits");
    Board b = before(3, 76, 0, 4);
    for (int cycle = 0; cycle < 24; cycle++) {
      boolean wanted = cycle >= 3 && cycle <= 13;
      int access = b.access();
      Bench.due("run(1) in cycle " + cycle, b.run(1), wanted ? 0 : 1);
      Bench.due("stolen in cycle " + cycle, b.stolen(), Math.max(0, Math.min(11, cycle - 2)));
      if (wanted) {
        Bench.due("access in cycle " + cycle, b.access(), access);
      }
    }
  }

  private static void onlyBadLines() {
    part("If the bus is wanted: in bad lines alone");
    for (int shift = 0; shift < 8; shift++) {
      Board b = new Board();
      Bench.write(b, CONTROL, 16 + shift);
      Bench.runTo(b, 0, 0);
      Bench.restart(b, Bench.START, 76, 0, 4);
      for (int line = 0; line < 40; line++) {
        boolean bad = line >= 8 && line <= 31 && line % 8 == shift;
        Bench.due("shift " + shift + ", line " + line, b.run(24), bad ? 13 : 24);
      }
      Bench.due("stolen in a frame", b.stolen(), 33);
    }
    Board off = new Board();
    Bench.write(off, CONTROL, 7);
    Bench.restart(off, Bench.START, 76, 0, 4);
    Bench.due("off", off.run(960), 960);
    Bench.due("stolen while off", off.stolen(), 0);
  }

  private static void countsSincePower() {
    part("How many accesses waited, since power()");
    Board b = before(0, 76, 0, 4);
    b.run(5);
    Bench.due("stolen", b.stolen(), 5);
    Bench.due("access before the first", b.access(), -1);
    b.power();
    Bench.due("stolen behind power()", b.stolen(), 0);
    b.run(20);
    Bench.due("stolen since power()", b.stolen(), 6);
  }

  private static void jammedWaitsForNothing() {
    part("it makes no access any more, and none waits");
    Board b = before(1, Bench.JAM);
    Bench.due("run(24)", b.run(24), 1);
    Bench.due("stolen", b.stolen(), 0);
    Board early = before(0, Bench.JAM);
    Bench.due("run(11)", early.run(11), 0);
    Bench.due("not jammed while it waits", early.jammed(), false);
    Bench.due("stolen", early.stolen(), 11);
    early.run(1);
    Bench.due("jammed", early.jammed(), true);
  }

  /** What stands in the text begins n cycles before the bus is wanted. */
  private static void goes(String name, int n, String trace, int stolen, int... program) {
    Board b = before(n, program);
    Bench.due(name, Bench.trace(b, trace.split(" ").length), trace);
    Bench.due(name + ": stolen", b.stolen(), stolen);
  }

  private static void storesGoOn() {
    part("and the access is a read: writes of STA, STX and STY do not wait");
    String rest = " - - - - - - - - - -";
    goes("STA SHORT", 2, "r1024 r1025 w200" + rest + " r1026", 10, 133, 200, 234);
    goes("STX SHORT", 2, "r1024 r1025 w200" + rest + " r1026", 10, 134, 200, 234);
    goes("STY SHORT", 2, "r1024 r1025 w200" + rest + " r1026", 10, 132, 200, 234);
    goes("STA LONG", 3, "r1024 r1025 r1026 w1536" + rest + " r1027", 10, 141, 0, 6, 234);
    goes("STA LONG X", 4, "r1024 r1025 r1026 r1536 w1536" + rest + " r1027", 10, 157, 0, 6, 234);
    goes("STA SHORT, its read waits", 1, "r1024 " + ELEVEN + " r1025 w200", 11, 133, 200);
    goes("STA LONG X, its read waits", 3, "r1024 r1025 r1026 " + ELEVEN + " r1536 w1536", 11, 157, 0, 6);
    goes("STA LONG, its read waits", 2, "r1024 r1025 " + ELEVEN + " r1026 w1536", 11, 141, 0, 6);
  }

  private static void changeGoesOn() {
    part("and the access is a read: both writes of INC and DEC do not wait");
    goes("INC", 3, "r1024 r1025 r200 w200 w200 - - - - - - - - - r1026", 9, 230, 200, 234);
    goes("DEC", 4, "r1024 r1025 r200 w200 w200 - - - - - - - - - - r1026", 10, 198, 200, 234);
    goes("INC, its read waits", 2, "r1024 r1025 " + ELEVEN + " r200 w200 w200", 11, 230, 200);
  }

  private static void stackWritesGoOn() {
    part("and the access is a read: writes of CALL and PUSH do not wait");
    goes("CALL", 3, "r1024 r1025 r511 w511 w510 - - - - - - - - - r1026", 9, 32, 0, 6);
    goes("CALL, its read waits", 2, "r1024 r1025 " + ELEVEN + " r511 w511 w510 r1026", 11, 32, 0, 6);
    goes("CALL, its last read waits", 5, "r1024 r1025 r511 w511 w510 " + ELEVEN + " r1026", 11, 32, 0, 6);
    goes("PUSH", 2, "r1024 r1025 w511 - - - - - - - - - - r1025", 10, 72, 234);
    goes("PUSH, its read waits", 1, "r1024 " + ELEVEN + " r1025 w511 r1025", 11, 72, 234);
  }

  private static void interruptWritesGoOn() {
    part("and the access is a read: the three writes of an interrupt do not wait");
    interrupted(2, "r1025 r1025 w511 w510 w509 - - - - - - - - r8190 r8191 r768", 8);
    interrupted(1, "r1025 " + ELEVEN + " r1025 w511 w510 w509 r8190 r8191 r768", 11);
    interrupted(5, "r1025 r1025 w511 w510 w509 " + ELEVEN + " r8190 r8191 r768", 11);
    interrupted(0, ELEVEN + " r1025 r1025 w511 w510 w509 r8190 r8191 r768", 11);
  }

  /** The picture chip's flag of line 0 stands; the code before the interrupt clears I. */
  private static void interrupted(int n, String trace, int stolen) {
    Board b = new Board();
    Bench.write(b, Bench.PICTURE + 5, 1);
    Bench.write(b, CONTROL, 17);
    Bench.runTo(b, BAD_LINE - 1, 0);
    Bench.runTo(b, BAD_LINE, 3 - n - 2);
    Bench.restart(b, Bench.START, 88, 234, 234);
    b.run(2);
    Bench.due("interrupt " + n, Bench.trace(b, trace.split(" ").length), trace);
    Bench.due("interrupt " + n + ": stolen", b.stolen(), stolen);
    Bench.due("interrupt " + n + ": how many", b.interrupts(), 1);
  }

  /** What is read is what stands there when the bus is free again. */
  private static void waitingReadIsMadeLate() {
    part("it is not made in this cycle, but waits");
    Board b = before(2, 165, 200);
    b.run(2 + 10);
    b.poke(200, 55);
    Bench.due("nothing while it waits", Bench.state(b), "A0 X0 Y0 S255 F4 P1026");
    b.run(1);
    Bench.due("the last cycle that it waits", Bench.state(b), "A0 X0 Y0 S255 F4 P1026");
    b.run(1);
    Bench.due("made", Bench.state(b), "A55 X0 Y0 S255 F4 P1026");
    Board code = before(0, 234);
    code.run(11);
    code.poke(Bench.START, 169);
    code.run(2);
    Bench.due("a code that waited", Bench.state(code), "A0 X0 Y0 S255 F6 P1026");
  }

  private static void readsOfEachKindWait() {
    part("and the access is a read: each kind of read waits");
    goes("LDA SHORT", 2, "r1024 r1025 " + ELEVEN + " r200", 11, 165, 200);
    goes("LDA LONG", 3, "r1024 r1025 r1026 " + ELEVEN + " r1536", 11, 173, 0, 6);
    goes("LDA LONG X", 3, "r1024 r1025 r1026 " + ELEVEN + " r1536", 11, 189, 0, 6);
    goes("LDA OWN", 1, "r1024 " + ELEVEN + " r1025", 11, 169, 0);
    goes("branch", 2, "r1024 r1025 " + ELEVEN + " r1026 r1031", 11, 208, 5);
    goes("JUMP", 2, "r1024 r1025 " + ELEVEN + " r1026 r1536", 11, 76, 0, 6);
    goes("RETURN", 4, "r1024 r1025 r511 r256 " + ELEVEN + " r257 r0", 11, 96);
    goes("RETURN FROM INTERRUPT", 4, "r1024 r1025 r511 r256 " + ELEVEN + " r257 r258", 11, 64);
    goes("PULL", 2, "r1024 r1025 " + ELEVEN + " r511 r256", 11, 104);
    goes("PULL, later", 3, "r1024 r1025 r511 " + ELEVEN + " r256", 11, 104);
    goes("nothing", 1, "r1024 " + ELEVEN + " r1025", 11, 234);
    Board crossing = before(6, 162, 1, 189, 255, 6);
    Bench.due("LDA LONG X over", Bench.trace(crossing, 18),
        "r1024 r1025 r1026 r1027 r1028 r1536 " + ELEVEN + " r1792");
  }
}
