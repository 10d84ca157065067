/** "Terms", THE INTERFACE CHIP (promise 5), each sentence with a test of its own. */
public final class InterfaceTest {
  private static final int ROWS = Bench.INTERFACE;
  private static final int KEYS = Bench.INTERFACE + 1;
  private static final int[] LOW = {Bench.INTERFACE + 4, Bench.INTERFACE + 6};
  private static final int[] HIGH = {Bench.INTERFACE + 5, Bench.INTERFACE + 7};
  private static final int FLAGS = Bench.INTERFACE + 13;
  private static final int[] CONTROL = {Bench.INTERFACE + 14, Bench.INTERFACE + 15};
  private static final int RUN = 1;
  private static final int ONCE = 8;
  private static final int RELOAD = 16;
  private static final int CASCADE = 64;

  public static void main(String[] args) {
    rows();
    keysOfRows();
    noKeys();
    keysAreNotWritten();
    for (int timer = 0; timer < 2; timer++) {
      latchAtFirst(timer);
      countAtFirst(timer);
      latchByBytes(timer);
      highByteSetsTheCount(timer);
      highByteWhileItRuns(timer);
      countIsRead(timer);
      reload(timer);
      noReload(timer);
      countsDown(timer);
      endsAtZero(timer);
      longestCount(timer);
      shortestCount(timer);
      once(timer);
      onceInTheLastCycle(timer);
      notOnce(timer);
      runBit(timer);
    }
    timersAreApart();
    flagsAreRead();
    readingClears();
    onlyReadingThemClears();
    emptyReadsClearToo();
    clearedFlagsComeBack();
    enables();
    disables();
    enablesStay();
    controls();
    cascadeOfAIsNone();
    othersReadNothing();
    registersAreApart();
    countsBeforeTheProcessor();
    cascade();
    cascadeNeedsARunning();
    cascadeNeedsAAtZero();
    cascadeWithTheLastOfA();
    cascadeWithOnce();
    cascadeOfLatchZero();
    Bench.done();
  }

  private static void part(String sentence) {
    Bench.part("Terms, THE INTERFACE CHIP: '" + sentence + "'");
  }

  private static int count(Board b, int timer) {
    return b.look(LOW[timer]) + 256 * b.look(HIGH[timer]);
  }

  private static void rows() {
    part("0 ROWS, reading gives it back");
    Board b = new Board();
    for (int value : new int[] {255, 0, 1, 128, 127, 254, 90}) {
      Bench.write(b, ROWS, value);
      Bench.due("looked at", b.look(ROWS), value);
      Bench.due("read", Bench.read(b, ROWS), value);
    }
  }

  private static void keysOfRows() {
    part("1 reading: 255 without each bit that is set in the KEYS of some row r whose bit r in ROWS is 0");
    Board b = new Board();
    for (int r = 0; r < 8; r++) {
      b.press(r, 1 << r);
    }
    Bench.due("all rows", b.look(KEYS), 0);
    for (int rows = 0; rows < 256; rows += 15) {
      Bench.write(b, ROWS, rows);
      Bench.due("ROWS " + rows, b.look(KEYS), rows);
      Bench.due("ROWS " + rows + ", read", Bench.read(b, KEYS), rows);
    }
    Board two = new Board();
    two.press(2, 129);
    two.press(3, 65);
    Bench.write(two, ROWS, 243);
    Bench.due("rows 2 and 3, one bit in both", two.look(KEYS), 62);
    Bench.write(two, ROWS, 251);
    Bench.due("row 2 alone", two.look(KEYS), 126);
    two.press(2, 0);
    Bench.due("none of row 2", two.look(KEYS), 255);
  }

  private static void noKeys() {
    part("1 reading: 255 without each bit ..: 255 when there is none");
    Board b = new Board();
    Bench.due("at first", b.look(KEYS), 255);
    for (int r = 0; r < 8; r++) {
      b.press(r, 255);
    }
    Bench.due("all keys, ROWS at first", b.look(KEYS), 0);
    Bench.write(b, ROWS, 255);
    Bench.due("all keys, no row chosen", b.look(KEYS), 255);
  }

  private static void keysAreNotWritten() {
    part("1 reading ..: writing it does nothing");
    Board b = new Board();
    b.press(0, 5);
    Bench.write(b, KEYS, 0);
    Bench.due("behind 0", b.look(KEYS), 250);
    Bench.write(b, KEYS, 255);
    Bench.due("behind 255", b.look(KEYS), 250);
    Bench.due("ROWS", b.look(ROWS), 0);
  }

  private static void latchAtFirst(int timer) {
    part("its LATCH (65535 at first)");
    Board low = new Board();
    Bench.write(low, LOW[timer], 18);
    Bench.write(low, CONTROL[timer], RELOAD);
    Bench.due("its high byte", count(low, timer), 65280 + 18);
    Board high = new Board();
    Bench.write(high, HIGH[timer], 52);
    Bench.due("its low byte", count(high, timer), 52 * 256 + 255);
    Board both = new Board();
    Bench.write(both, CONTROL[timer], RELOAD);
    Bench.due("both", count(both, timer), 65535);
  }

  private static void countAtFirst(int timer) {
    part("its count (65535 at first)");
    Board b = new Board();
    Bench.due("count", count(b, timer), 65535);
    b.run(1000);
    Bench.due("it does not run at first", count(b, timer), 65535);
    Bench.write(b, CONTROL[timer], RUN);
    Bench.due("from there it falls", count(b, timer), 65534);
  }

  private static void latchByBytes(int timer) {
    part("writing sets the low or high byte of its LATCH");
    Board b = new Board();
    int[][] words = {{0, 0}, {255, 0}, {0, 255}, {255, 255}, {1, 128}};
    for (int[] word : words) {
      Bench.write(b, LOW[timer], word[0]);
      Bench.write(b, HIGH[timer], word[1]);
      Bench.due("count", count(b, timer), word[0] + 256 * word[1]);
    }
    Bench.write(b, HIGH[timer], 7);
    Bench.due("the high byte anew, the low one stays", count(b, timer), 7 * 256 + 1);
    Bench.write(b, LOW[timer], 9);
    Bench.write(b, CONTROL[timer], RELOAD);
    Bench.due("the low byte anew, the high one stays", count(b, timer), 7 * 256 + 9);
  }

  private static void highByteSetsTheCount(int timer) {
    part("writing 5 while it does not run also its COUNT becomes the latch");
    Board b = new Board();
    Bench.write(b, LOW[timer], 18);
    Bench.due("not by the low byte", count(b, timer), 65535);
    Bench.write(b, HIGH[timer], 52);
    Bench.due("by the high byte", count(b, timer), 52 * 256 + 18);
    Bench.write(b, LOW[timer], 19);
    Bench.due("not by the low byte", count(b, timer), 52 * 256 + 18);
    Bench.write(b, HIGH[timer], 52);
    Bench.due("by the same high byte", count(b, timer), 52 * 256 + 19);
  }

  private static void highByteWhileItRuns(int timer) {
    part("writing 5 while it does not run ..: while it runs the count goes on");
    Board b = running(timer, 1000, RUN);
    int before = count(b, timer);
    Bench.write(b, HIGH[timer], 0);
    Bench.due("the count goes on", count(b, timer), before - 7);
    b.run(before - 7);
    Bench.due("down to 0", count(b, timer), 0);
    b.run(1);
    Bench.due("then it is the new latch", count(b, timer), 1000 % 256);
  }

  private static void countIsRead(int timer) {
    part("reading gives the bytes of its count");
    Board b = new Board();
    Bench.write(b, LOW[timer], 18);
    Bench.write(b, HIGH[timer], 52);
    Bench.write(b, LOW[timer], 99);
    Bench.due("the low byte, not the latch's", Bench.read(b, LOW[timer]), 18);
    Bench.due("the high byte", Bench.read(b, HIGH[timer]), 52);
    Board moving = running(timer, 257, RUN);
    Bench.due("256", moving.look(LOW[timer]), 0);
    Bench.due("256", moving.look(HIGH[timer]), 1);
    moving.run(1);
    Bench.due("255", moving.look(LOW[timer]), 255);
    Bench.due("255", moving.look(HIGH[timer]), 0);
  }

  /** Sets a latch and a control; one cycle has passed behind the write of the control. */
  private static Board running(int timer, int latch, int control) {
    Board b = new Board();
    Bench.write(b, LOW[timer], latch % 256);
    Bench.write(b, HIGH[timer], latch / 256);
    Bench.write(b, CONTROL[timer], control);
    return b;
  }

  private static void reload(int timer) {
    part("writing with bit 4 set: the count becomes the latch, too");
    Board b = running(timer, 500, RUN);
    b.run(100);
    Bench.write(b, CONTROL[timer], RUN + RELOAD);
    Bench.due("while it runs", count(b, timer), 499);
    Bench.write(b, CONTROL[timer], RELOAD);
    Bench.due("and it stops", count(b, timer), 500);
    Bench.write(b, LOW[timer], 77);
    Bench.due("the latch alone", count(b, timer), 500);
    Bench.write(b, CONTROL[timer], RELOAD);
    Bench.due("while it does not run", count(b, timer), 256 + 77);
    Bench.due("bit 4 is not given back", b.look(CONTROL[timer]), 0);
  }

  private static void noReload(int timer) {
    part("writing with bit 4 set: not without it");
    Board b = running(timer, 500, RUN);
    b.run(100);
    Bench.write(b, CONTROL[timer], 0);
    int stopped = count(b, timer);
    Bench.due("stopped in the middle", stopped < 400, true);
    Bench.write(b, CONTROL[timer], 239 - RUN);
    Bench.due("all other bits", count(b, timer), stopped);
    Bench.write(b, CONTROL[timer], RUN);
    Bench.due("it goes on from there", count(b, timer), stopped - 1);
  }

  private static void countsDown(int timer) {
    part("otherwise the count falls by 1");
    Board b = running(timer, 259, RUN);
    Bench.due("in the cycle behind the write", count(b, timer), 258);
    b.run(2);
    Bench.due("256", count(b, timer), 256);
    b.run(1);
    Bench.due("255", count(b, timer), 255);
    b.run(254);
    Bench.due("1", count(b, timer), 1);
    Bench.due("no flag", b.look(FLAGS), 0);
  }

  private static void endsAtZero(int timer) {
    part("when its count is 0, its flag is set, the count becomes the latch");
    Board b = running(timer, 5, RUN);
    b.run(4);
    Bench.due("0", count(b, timer), 0);
    Bench.due("no flag yet", b.look(FLAGS), 0);
    Board c = running(timer, 5, RUN);
    c.run(5);
    Bench.due("the latch", count(c, timer), 5);
    Bench.due("the flag", c.look(FLAGS), 1 + timer);
    c.run(5);
    Bench.due("0 again", count(c, timer), 0);
    c.run(1);
    Bench.due("the latch again", count(c, timer), 5);
  }

  private static void longestCount(int timer) {
    part("when its count is 0: the longest count, 65535");
    Board b = new Board();
    Bench.write(b, CONTROL[timer], RUN);
    Bench.runCycles(b, 65534);
    Bench.due("0", count(b, timer), 0);
    Bench.due("no flag yet", b.look(FLAGS), 0);
    b.run(1);
    Bench.due("65535", count(b, timer), 65535);
    Bench.due("the flag", b.look(FLAGS), 1 + timer);
  }

  private static void shortestCount(int timer) {
    part("when its count is 0: the shortest latch, 0");
    Board b = running(timer, 0, RUN);
    Bench.due("the flag at once", b.look(FLAGS), 1 + timer);
    Bench.due("read", Bench.read(b, FLAGS), 1 + timer);
    Bench.due("and again in the next cycle", b.look(FLAGS), 1 + timer);
    Bench.due("count", count(b, timer), 0);
    Bench.due("it runs", b.look(CONTROL[timer]), RUN);
  }

  private static void once(int timer) {
    part("with ONCE its RUN is cleared");
    Board b = running(timer, 3, RUN + ONCE);
    b.run(2);
    Bench.due("0", count(b, timer), 0);
    Bench.due("it runs", b.look(CONTROL[timer]), RUN + ONCE);
    b.run(1);
    Bench.due("the latch", count(b, timer), 3);
    Bench.due("the flag", b.look(FLAGS), 1 + timer);
    Bench.due("it runs no more", b.look(CONTROL[timer]), ONCE);
    b.run(50);
    Bench.due("the count stays", count(b, timer), 3);
    Bench.write(b, HIGH[timer], 1);
    Bench.due("the high byte sets it again", count(b, timer), 259);
  }

  /** ONCE counts as it is when the count is 0, whenever it was written. */
  private static void onceInTheLastCycle(int timer) {
    part("with ONCE its RUN is cleared: as ONCE is then");
    Board set = running(timer, 30, RUN);
    Bench.write(set, CONTROL[timer], RUN + ONCE);
    set.run(40);
    Bench.due("set on the way", set.look(CONTROL[timer]), ONCE);
    Board cleared = running(timer, 30, RUN + ONCE);
    Bench.write(cleared, CONTROL[timer], RUN);
    cleared.run(40);
    Bench.due("cleared on the way", cleared.look(CONTROL[timer]), RUN);
  }

  private static void notOnce(int timer) {
    part("with ONCE its RUN is cleared: not without it");
    Board b = running(timer, 3, RUN);
    b.run(40);
    Bench.due("it runs on", b.look(CONTROL[timer]), RUN);
  }

  private static void runBit(int timer) {
    part("bit 0 RUN");
    for (int control : new int[] {0, 2, 4, 32, 128, 166, ONCE}) {
      Board b = running(timer, 300, control);
      b.run(100);
      Bench.due("control " + control, count(b, timer), 300);
    }
    Board b = running(timer, 300, RUN);
    Bench.write(b, CONTROL[timer], 0);
    int stopped = count(b, timer);
    b.run(100);
    Bench.due("stopped", count(b, timer), stopped);
    Bench.due("no flag", b.look(FLAGS), 0);
  }

  private static void timersAreApart() {
    part("6, 7 TIMER B likewise");
    Board b = new Board();
    Bench.write(b, LOW[0], 1);
    Bench.write(b, HIGH[0], 2);
    Bench.due("B behind writes to A", count(b, 1), 65535);
    Bench.write(b, LOW[1], 3);
    Bench.write(b, HIGH[1], 4);
    Bench.due("A behind writes to B", count(b, 0), 513);
    Bench.write(b, CONTROL[1], RUN);
    b.run(10);
    Bench.due("A while B runs", count(b, 0), 513);
    Bench.due("B", count(b, 1), 1027 - 11);
    Bench.write(b, CONTROL[1], 0);
    Bench.write(b, CONTROL[0], RUN + RELOAD);
    int left = count(b, 1);
    b.run(10);
    Bench.due("B while A runs", count(b, 1), left);
    Bench.due("A", count(b, 0), 513 - 11);
  }

  /** A board with these flags set (1 for A, 2 for B). */
  private static Board flagged(int flags) {
    Board b = new Board();
    for (int timer = 0; timer < 2; timer++) {
      Bench.write(b, LOW[timer], 0);
      Bench.write(b, HIGH[timer], 0);
      if ((flags >> timer & 1) != 0) {
        Bench.write(b, CONTROL[timer], RUN + ONCE);
      }
    }
    return b;
  }

  private static void flagsAreRead() {
    part("13 reading: the flags (1 for A, 2 for B), and 128 more if one of them is enabled");
    for (int flags = 0; flags < 4; flags++) {
      for (int enabled = 0; enabled < 4; enabled++) {
        Board b = flagged(flags);
        Bench.write(b, FLAGS, 128 + enabled);
        int want = flags + ((flags & enabled) != 0 ? 128 : 0);
        Bench.due("flags " + flags + ", enabled " + enabled, b.look(FLAGS), want);
        Bench.due("flags " + flags + ", enabled " + enabled + ", read", Bench.read(b, FLAGS), want);
      }
    }
  }

  private static void readingClears() {
    part("13 reading: .. and then they are cleared");
    for (int flags = 0; flags < 4; flags++) {
      Board b = flagged(flags);
      Bench.due("read", Bench.read(b, FLAGS), flags);
      Bench.due("cleared", b.look(FLAGS), 0);
      Bench.due("read again", Bench.read(b, FLAGS), 0);
    }
    for (int mirror = 1; mirror < 4; mirror++) {
      Board b = flagged(3);
      Bench.due("read at mirror " + mirror, Bench.read(b, FLAGS + 16 * mirror), 3);
      Bench.due("cleared", b.look(FLAGS), 0);
    }
  }

  private static void onlyReadingThemClears() {
    part("13 reading: .. cleared, by reading nothing else");
    for (int at = Bench.PICTURE; at < Bench.PICTURE + 256; at++) {
      boolean clears = at >= Bench.INTERFACE && at < Bench.COLOURS && at % 16 == 13;
      Board b = running(0, 0, RUN + ONCE);
      Bench.read(b, at);
      Bench.due("read at " + at, b.look(FLAGS), clears ? 0 : 1);
    }
    Board hidden = running(0, 0, RUN + ONCE);
    for (int port = 0; port < 5; port++) {
      Bench.write(hidden, 1, port);
      Bench.read(hidden, FLAGS);
    }
    Bench.write(hidden, 1, 7);
    Bench.due("read where the map hides it", hidden.look(FLAGS), 1);
    Bench.write(hidden, FLAGS, 3);
    Bench.due("written", hidden.look(FLAGS), 1);
  }

  /** The read before the carry, that before STA's write, and those at P are accesses like others. */
  private static void emptyReadsClearToo() {
    part("13 reading: .. cleared, by reads that no one needs, too");
    Board b = running(0, 0, RUN + ONCE);
    Bench.restart(b, Bench.START, 162, 1, 157, FLAGS - 1 & 255, FLAGS - 1 >> 8);
    b.run(5);
    Bench.due("before STA's empty read", b.look(FLAGS), 1);
    b.run(1);
    Bench.due("behind STA's empty read", b.look(FLAGS), 0);
    Board c = running(0, 0, RUN + ONCE);
    Bench.restart(c, Bench.START, 162, 128, 189, FLAGS + 128 & 255, FLAGS >> 8);
    c.run(5);
    Bench.due("before the read before the carry", c.look(FLAGS), 1);
    c.run(1);
    Bench.due("behind the read before the carry", c.look(FLAGS), 0);
    Board code = running(0, 0, RUN + ONCE);
    Bench.restart(code, FLAGS);
    code.run(1);
    Bench.due("the code itself, 1, jams", code.jammed(), true);
    Bench.due("behind the code's read", code.look(FLAGS), 0);
  }

  private static void clearedFlagsComeBack() {
    part("its flag is set: again, when it was cleared");
    Board b = running(0, 20, RUN);
    b.run(20);
    Bench.due("set", Bench.read(b, FLAGS), 1);
    Bench.due("cleared", b.look(FLAGS), 0);
    b.run(21);
    Bench.due("set again", b.look(FLAGS), 1);
  }

  private static void enables() {
    part("writing a byte with bit 7 enables those of the lowest two bits that are set in it");
    int[] bytes = {128, 129, 130, 131, 252, 253, 254, 255};
    for (int value : bytes) {
      Board a = flagged(1);
      Bench.write(a, FLAGS, value);
      Bench.due("A by " + value, a.look(FLAGS), 1 + (value % 2 == 1 ? 128 : 0));
      Board b = flagged(2);
      Bench.write(b, FLAGS, value);
      Bench.due("B by " + value, b.look(FLAGS), 2 + (value / 2 % 2 == 1 ? 128 : 0));
    }
    Board one = flagged(1);
    Bench.write(one, FLAGS, 129);
    Bench.write(one, FLAGS, 130);
    Bench.due("A is enabled still", one.look(FLAGS), 129);
    Bench.write(one, FLAGS, 128);
    Bench.due("128 changes nothing", one.look(FLAGS), 129);
  }

  private static void disables() {
    part("writing a byte .. without it disables them");
    int[] bytes = {0, 1, 2, 3, 124, 125, 126, 127};
    for (int value : bytes) {
      Board a = flagged(1);
      Bench.write(a, FLAGS, 131);
      Bench.write(a, FLAGS, value);
      Bench.due("A by " + value, a.look(FLAGS), 1 + (value % 2 == 1 ? 0 : 128));
      Board b = flagged(2);
      Bench.write(b, FLAGS, 131);
      Bench.write(b, FLAGS, value);
      Bench.due("B by " + value, b.look(FLAGS), 2 + (value / 2 % 2 == 1 ? 0 : 128));
    }
  }

  private static void enablesStay() {
    part("and then they are cleared: the flags, not what is enabled");
    Board b = flagged(1);
    Bench.write(b, FLAGS, 129);
    Bench.due("read", Bench.read(b, FLAGS), 129);
    Bench.write(b, CONTROL[0], RUN + ONCE);
    Bench.due("the next flag is enabled, too", b.look(FLAGS), 129);
  }

  private static void controls() {
    part("14, 15 the CONTROL of A and B: bit 0 RUN, bit 3 ONCE, bit 6 (of B) CASCADE, which reading gives back");
    int[] kept = {RUN + ONCE, RUN + ONCE + CASCADE};
    for (int timer = 0; timer < 2; timer++) {
      Board b = new Board();
      Bench.due("at first", b.look(CONTROL[timer]), 0);
      for (int bit = 0; bit < 8; bit++) {
        Bench.write(b, CONTROL[timer], 1 << bit);
        Bench.due("bit " + bit, b.look(CONTROL[timer]), 1 << bit & kept[timer]);
        Bench.due("bit " + bit + " read", Bench.read(b, CONTROL[timer]), 1 << bit & kept[timer]);
      }
      Bench.write(b, CONTROL[timer], 255);
      Bench.due("all", b.look(CONTROL[timer]), kept[timer]);
      Bench.write(b, CONTROL[timer], 0);
      Bench.due("none", b.look(CONTROL[timer]), 0);
    }
  }

  private static void cascadeOfAIsNone() {
    part("bit 6 (of B) CASCADE: A has none");
    Board b = running(0, 300, RUN + CASCADE);
    Bench.due("A falls", count(b, 0), 299);
    b.run(10);
    Bench.due("each cycle", count(b, 0), 289);
  }

  private static void othersReadNothing() {
    part("Others read 0");
    Board b = new Board();
    for (int which : new int[] {2, 3, 8, 9, 10, 11, 12}) {
      Bench.write(b, Bench.INTERFACE + which, 255);
      Bench.due("register " + which, b.look(Bench.INTERFACE + which), 0);
      Bench.due("register " + which + " read", Bench.read(b, Bench.INTERFACE + which), 0);
    }
    Bench.due("A", count(b, 0), 65535);
    Bench.due("B", count(b, 1), 65535);
    Bench.due("ROWS", b.look(ROWS), 0);
  }

  /** Both flags are set, A's is enabled; the latches, which are not given back, are known by reloading. */
  private static void registersAreApart() {
    part("Registers: .. each is written alone");
    int[] held = {33, 255, 0, 0, 1, 2, 3, 4, 0, 0, 0, 0, 0, 131, ONCE, ONCE};
    for (int which = 0; which < 16; which++) {
      for (int value : new int[] {0, 255, 170, 85}) {
        Board b = flagged(3);
        Bench.write(b, FLAGS, 129);
        Bench.write(b, ROWS, 33);
        Bench.writeAll(b, LOW[0], 1, 2, 3, 4);
        Bench.write(b, Bench.INTERFACE + which, value);
        for (int other = 0; other < 16; other++) {
          boolean ofTimer = which >= 14 ? other / 2 == which - 12 : which >= 4 && which < 8 && other / 2 == which / 2;
          if (other != which && !ofTimer) {
            Bench.due("register " + other + " behind " + value + " in register " + which,
                b.look(Bench.INTERFACE + other), held[other]);
          }
        }
        Bench.write(b, CONTROL[0], RELOAD);
        Bench.write(b, CONTROL[1], RELOAD);
        for (int other = 4; other < 8; other++) {
          Bench.due("latch " + other + " behind " + value + " in register " + which,
              b.look(Bench.INTERFACE + other), other == which ? value : held[other]);
        }
      }
    }
  }

  /** What a cycle's access writes counts from the next cycle on; what it reads, the timers have changed. */
  private static void countsBeforeTheProcessor() {
    part("In each cycle, .. before the processor");
    Board b = new Board();
    Bench.write(b, LOW[0], 100);
    Bench.write(b, HIGH[0], 0);
    Bench.writeIn(b, 5, 10, CONTROL[0], RUN);
    Bench.due("not in the cycle of the write", count(b, 0), 100);
    b.run(1);
    Bench.due("but in the next one", count(b, 0), 99);
    Board late = new Board();
    Bench.write(late, LOW[0], 6);
    Bench.write(late, HIGH[0], 0);
    Bench.write(late, CONTROL[0], RUN + ONCE);
    late.run(2);
    Bench.due("3 cycles before the flag", count(late, 0), 3);
    Bench.restart(late, Bench.START, 173, FLAGS & 255, FLAGS >> 8);
    late.run(3);
    Bench.due("0", count(late, 0), 0);
    Bench.due("no flag", late.look(FLAGS), 0);
    late.run(1);
    Bench.due("the flag of that cycle is read", late.register(0), 1);
    Bench.due("and cleared", late.look(FLAGS), 0);
  }

  /** A's latch is 9, B's is 2; B runs with CASCADE; one cycle has passed since A's control was written. */
  private static Board cascaded(int controlOfA, int controlOfB) {
    Board b = new Board();
    Bench.writeAll(b, LOW[0], 9, 0, 2, 0);
    Bench.write(b, CONTROL[1], controlOfB);
    Bench.write(b, CONTROL[0], controlOfA);
    return b;
  }

  private static void cascade() {
    part("with CASCADE only in a cycle in which A's count was 0 and A ran");
    Board b = cascaded(RUN, RUN + CASCADE);
    b.run(8);
    Bench.due("A at 0", count(b, 0), 0);
    Bench.due("B waits", count(b, 1), 2);
    b.run(1);
    Bench.due("A at its latch", count(b, 0), 9);
    Bench.due("B falls in the same cycle", count(b, 1), 1);
    b.run(9);
    Bench.due("B waits", count(b, 1), 1);
    b.run(1);
    Bench.due("B at 0", count(b, 1), 0);
    b.run(9);
    Bench.due("flag A alone", b.look(FLAGS), 1);
    b.run(1);
    Bench.due("both flags", b.look(FLAGS), 3);
    Bench.due("B at its latch", count(b, 1), 2);
  }

  private static void cascadeNeedsARunning() {
    part("with CASCADE only in a cycle in which .. A ran");
    Board b = running(0, 0, 0);
    Bench.writeAll(b, LOW[1], 5, 0);
    Bench.write(b, CONTROL[1], RUN + CASCADE);
    Bench.due("A is 0", count(b, 0), 0);
    b.run(100);
    Bench.due("B waits", count(b, 1), 5);
    Bench.due("no flag", b.look(FLAGS), 0);
  }

  private static void cascadeNeedsAAtZero() {
    part("with CASCADE only in a cycle in which A's count was 0");
    Board b = cascaded(RUN + RELOAD, RUN + CASCADE);
    b.run(1);
    Bench.due("A runs", count(b, 0), 7);
    Bench.due("B waits", count(b, 1), 2);
    Board free = cascaded(0, RUN);
    Bench.due("without CASCADE B needs no A", free.look(FLAGS), 2);
  }

  private static void cascadeWithTheLastOfA() {
    part("with CASCADE only in a cycle in which .. A ran: with ONCE, in its last one, too");
    Board b = cascaded(RUN + ONCE, RUN + CASCADE);
    b.run(50);
    Bench.due("A runs no more", b.look(CONTROL[0]), ONCE);
    Bench.due("B fell once", count(b, 1), 1);
  }

  private static void cascadeWithOnce() {
    part("Then B if it runs, likewise: ONCE with CASCADE");
    Board b = cascaded(RUN, RUN + ONCE + CASCADE);
    b.run(28);
    Bench.due("before its end", b.look(CONTROL[1]), RUN + ONCE + CASCADE);
    b.run(1);
    Bench.due("it runs no more", b.look(CONTROL[1]), ONCE + CASCADE);
    Bench.due("the latch", count(b, 1), 2);
    Bench.due("both flags", b.look(FLAGS), 3);
    b.run(50);
    Bench.due("the count stays", count(b, 1), 2);
  }

  private static void cascadeOfLatchZero() {
    part("with CASCADE only in a cycle in which A's count was 0: each one, with a latch of 0");
    Board b = new Board();
    Bench.writeAll(b, LOW[0], 0, 0, 200, 0);
    Bench.write(b, CONTROL[1], RUN + CASCADE);
    Bench.write(b, CONTROL[0], RUN);
    Bench.due("B", count(b, 1), 199);
    b.run(10);
    Bench.due("B falls each cycle", count(b, 1), 189);
  }
}
