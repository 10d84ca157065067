/** The interface chip: keyboard (promise 5), timers and flags. */
public final class InterfaceTest {
  private static final int ROWS = Bench.INTERFACE;
  private static final int KEYS = Bench.INTERFACE + 1;
  private static final int[] LOW = {Bench.INTERFACE + 4, Bench.INTERFACE + 6};
  private static final int[] HIGH = {Bench.INTERFACE + 5, Bench.INTERFACE + 7};
  private static final int FLAGS = Bench.INTERFACE + 13;
  private static final int[] CONTROL = {Bench.INTERFACE + 14, Bench.INTERFACE + 15};
  private static final int RUN = 1;
  private static final int ONCE = 8;
  private static final int RELOAD = 16;
  private static final int CASCADE = 64;

  public static void main(String[] args) {
    keyboard();
    othersReadNothing();
    controlsAreGivenBack();
    for (int timer = 0; timer < 2; timer++) {
      latchAndCount(timer);
      countsDown(timer);
      once(timer);
      latchOfNothing(timer);
      reload(timer);
      highByteWhileItRuns(timer);
    }
    cascade();
    cascadeOfALonelyB();
    flagsAndEnables();
    readingClears();
    emptyReadsClearToo();
    Bench.done();
  }

  private static int count(Board b, int timer) {
    return b.look(LOW[timer]) + 256 * b.look(HIGH[timer]);
  }

  private static void keyboard() {
    Board b = new Board();
    for (int r = 0; r < 8; r++) {
      b.press(r, 1 << r);
    }
    Bench.due("all rows", b.look(KEYS), 0);
    for (int rows = 0; rows < 256; rows += 15) {
      Bench.write(b, ROWS, rows);
      Bench.due("ROWS", b.look(ROWS), rows);
      Bench.due("keys with ROWS " + rows, b.look(KEYS), rows);
      Bench.due("keys read with ROWS " + rows, Bench.read(b, KEYS), rows);
    }
    Bench.write(b, ROWS, 251);
    b.press(2, 129);
    b.press(3, 64);
    Bench.due("row 2 alone", b.look(KEYS), 126);
    b.press(2, 0);
    Bench.due("no key of row 2", b.look(KEYS), 255);
    Bench.write(b, KEYS, 0);
    Bench.due("writing the keys does nothing", b.look(KEYS), 255);
    Bench.write(b, ROWS, 243);
    Bench.due("rows 2 and 3", b.look(KEYS), 191);
  }

  private static void othersReadNothing() {
    Board b = new Board();
    int[] others = {2, 3, 8, 9, 10, 11, 12};
    for (int which : others) {
      Bench.write(b, Bench.INTERFACE + which, 255);
      Bench.due("interface register " + which, b.look(Bench.INTERFACE + which), 0);
    }
  }

  private static void controlsAreGivenBack() {
    Board b = new Board();
    Bench.write(b, CONTROL[0], 255);
    Bench.write(b, CONTROL[1], 255);
    Bench.due("control of A", b.look(CONTROL[0]), RUN + ONCE);
    Bench.due("control of B", b.look(CONTROL[1]), RUN + ONCE + CASCADE);
    Bench.write(b, CONTROL[0], 0);
    Bench.write(b, CONTROL[1], CASCADE);
    Bench.due("control of A", b.look(CONTROL[0]), 0);
    Bench.due("control of B", b.look(CONTROL[1]), CASCADE);
  }

  private static void latchAndCount(int timer) {
    Board b = new Board();
    Bench.due("count at first", count(b, timer), 65535);
    Bench.write(b, LOW[timer], 18);
    Bench.due("the low byte alone", count(b, timer), 65535);
    Bench.write(b, HIGH[timer], 52);
    Bench.due("both bytes", count(b, timer), 52 * 256 + 18);
    Bench.due("the other timer", count(b, 1 - timer), 65535);
    b.run(100);
    Bench.due("it does not run", count(b, timer), 52 * 256 + 18);
    Bench.write(b, HIGH[timer], 7);
    Bench.due("the high byte anew", count(b, timer), 7 * 256 + 18);
    Bench.due("low byte read", Bench.read(b, LOW[timer]), 18);
    Bench.due("high byte read", Bench.read(b, HIGH[timer]), 7);
    Board high = new Board();
    Bench.write(high, HIGH[timer], 1);
    Bench.due("the low byte of the first latch", count(high, timer), 511);
  }

  /** Sets a latch and a control; one cycle has passed behind the write of the control. */
  private static Board running(int timer, int latch, int control) {
    Board b = new Board();
    Bench.write(b, LOW[timer], latch % 256);
    Bench.write(b, HIGH[timer], latch / 256);
    Bench.write(b, CONTROL[timer], control);
    return b;
  }

  private static void countsDown(int timer) {
    Board b = running(timer, 259, RUN);
    Bench.due("the cycle behind the write counts", count(b, timer), 258);
    b.run(2);
    Bench.due("256", count(b, timer), 256);
    b.run(1);
    Bench.due("255", count(b, timer), 255);
    b.run(255);
    Bench.due("0", count(b, timer), 0);
    Bench.due("no flag yet", b.look(FLAGS), 0);
    b.run(1);
    Bench.due("the latch again", count(b, timer), 259);
    Bench.due("the flag", b.look(FLAGS), 1 + timer);
    Bench.due("it runs on", b.look(CONTROL[timer]), RUN);
    b.run(259);
    Bench.due("0 again", count(b, timer), 0);
    b.run(1);
    Bench.due("the latch once more", count(b, timer), 259);
  }

  private static void once(int timer) {
    Board b = running(timer, 3, RUN + ONCE);
    b.run(2);
    Bench.due("once: 0", count(b, timer), 0);
    Bench.due("once: it runs", b.look(CONTROL[timer]), RUN + ONCE);
    b.run(1);
    Bench.due("once: the latch", count(b, timer), 3);
    Bench.due("once: flag", b.look(FLAGS), 1 + timer);
    Bench.due("once: it runs no more", b.look(CONTROL[timer]), ONCE);
    b.run(50);
    Bench.due("once: the count stays", count(b, timer), 3);
  }

  private static void latchOfNothing(int timer) {
    Board b = running(timer, 0, RUN);
    Bench.due("latch 0: flag at once", b.look(FLAGS), 1 + timer);
    Bench.due("latch 0: read", Bench.read(b, FLAGS), 1 + timer);
    b.run(1);
    Bench.due("latch 0: each cycle", b.look(FLAGS), 1 + timer);
    Bench.due("latch 0: count", count(b, timer), 0);
  }

  private static void reload(int timer) {
    Board b = running(timer, 500, RUN);
    b.run(100);
    Bench.write(b, CONTROL[timer], RUN + RELOAD);
    Bench.due("reload", count(b, timer), 499);
    Bench.due("reload is not given back", b.look(CONTROL[timer]), RUN);
    Bench.write(b, CONTROL[timer], 0);
    int stopped = count(b, timer);
    b.run(10);
    Bench.due("stopped", count(b, timer), stopped);
    Bench.write(b, LOW[timer], 77);
    Bench.due("low byte, count stays", count(b, timer), stopped);
    Bench.write(b, CONTROL[timer], RELOAD);
    Bench.due("reload without run", count(b, timer), 256 + 77);
  }

  private static void highByteWhileItRuns(int timer) {
    Board b = running(timer, 1000, RUN);
    int before = count(b, timer);
    Bench.write(b, HIGH[timer], 0);
    Bench.due("the count goes on", count(b, timer), before - 7);
    b.run(before - 7);
    Bench.due("down to 0", count(b, timer), 0);
    b.run(1);
    Bench.due("the new latch", count(b, timer), 1000 % 256);
  }

  private static void cascade() {
    Board b = new Board();
    Bench.write(b, LOW[0], 9);
    Bench.write(b, HIGH[0], 0);
    Bench.write(b, LOW[1], 2);
    Bench.write(b, HIGH[1], 0);
    Bench.write(b, CONTROL[1], RUN + CASCADE);
    b.run(50);
    Bench.due("A does not run", count(b, 1), 2);
    Bench.write(b, CONTROL[0], RUN);
    b.run(8);
    Bench.due("A at 0", count(b, 0), 0);
    Bench.due("B waits", count(b, 1), 2);
    b.run(1);
    Bench.due("A at its latch", count(b, 0), 9);
    Bench.due("B falls in the same cycle", count(b, 1), 1);
    b.run(10);
    Bench.due("B at 0", count(b, 1), 0);
    Bench.due("flag A alone", b.look(FLAGS), 1);
    b.run(9);
    Bench.due("flag A alone still", b.look(FLAGS), 1);
    b.run(1);
    Bench.due("both flags", b.look(FLAGS), 3);
    Bench.due("B at its latch", count(b, 1), 2);
  }

  /** A stands at 0 but does not run; and A's last fall with ONCE counts for B. */
  private static void cascadeOfALonelyB() {
    Board b = running(0, 0, 0);
    Bench.write(b, LOW[1], 5);
    Bench.write(b, HIGH[1], 0);
    Bench.write(b, CONTROL[1], RUN + CASCADE);
    b.run(20);
    Bench.due("A at 0, not running", count(b, 1), 5);
    Bench.write(b, CONTROL[0], RUN + ONCE);
    b.run(20);
    Bench.due("A ran once", count(b, 1), 4);
    Bench.write(b, CONTROL[1], RUN + CASCADE + ONCE);
    for (int i = 0; i < 5; i++) {
      Bench.write(b, CONTROL[0], RUN + ONCE);
    }
    Bench.due("B with ONCE, behind 0", count(b, 1), 5);
    Bench.due("B runs no more", b.look(CONTROL[1]), CASCADE + ONCE);
  }

  private static void flagsAndEnables() {
    Board b = running(0, 0, RUN + ONCE);
    Bench.due("A, not enabled", b.look(FLAGS), 1);
    Bench.write(b, FLAGS, 130);
    Bench.due("B enabled", b.look(FLAGS), 1);
    Bench.write(b, FLAGS, 129);
    Bench.due("A and B enabled", b.look(FLAGS), 129);
    Bench.write(b, FLAGS, 1);
    Bench.due("A disabled", b.look(FLAGS), 1);
    Bench.write(b, CONTROL[1], RUN + RELOAD);
    Bench.write(b, CONTROL[1], 0);
    Bench.write(b, LOW[1], 0);
    Bench.write(b, HIGH[1], 0);
    Bench.write(b, CONTROL[1], RUN + ONCE);
    Bench.due("B is enabled still", b.look(FLAGS), 131);
    Bench.write(b, FLAGS, 0);
    Bench.due("0 disables none", b.look(FLAGS), 131);
    Bench.write(b, FLAGS, 128);
    Bench.due("128 changes none", b.look(FLAGS), 131);
    Bench.write(b, FLAGS, 127);
    Bench.due("127 disables both", b.look(FLAGS), 3);
    Bench.write(b, FLAGS, 255);
    Bench.due("255 enables both", b.look(FLAGS), 131);
  }

  private static void readingClears() {
    Board b = running(0, 0, RUN + ONCE);
    Bench.write(b, FLAGS, 129);
    Bench.due("read", Bench.read(b, FLAGS), 129);
    Bench.due("cleared", b.look(FLAGS), 0);
    Board mirror = running(1, 0, RUN + ONCE);
    Bench.due("read at a mirror", Bench.read(mirror, FLAGS + 48), 2);
    Bench.due("cleared", mirror.look(FLAGS), 0);
    for (int at = Bench.PICTURE; at < Bench.PICTURE + 256; at++) {
      boolean clears = at >= Bench.INTERFACE && at < Bench.COLOURS && at % 16 == 13;
      Board one = running(0, 0, RUN + ONCE);
      Bench.read(one, at);
      Bench.due("read at " + at, one.look(FLAGS), clears ? 0 : 1);
    }
    Board others = running(0, 0, RUN + ONCE);
    Bench.write(others, 1, 3);
    Bench.read(others, FLAGS);
    Bench.write(others, 1, 4);
    Bench.read(others, FLAGS);
    Bench.write(others, 1, 7);
    Bench.due("not read when the map hides it", others.look(FLAGS), 1);
  }

  /** The read before the carry, and that before STA's write, are accesses like others. */
  private static void emptyReadsClearToo() {
    Board b = running(0, 0, RUN + ONCE);
    Bench.restart(b, Bench.START, 162, 1, 157, FLAGS - 1 & 255, FLAGS - 1 >> 8);
    b.run(5);
    Bench.due("before STA's empty read", b.look(FLAGS), 1);
    b.run(1);
    Bench.due("behind STA's empty read", b.look(FLAGS), 0);
    Board c = running(0, 0, RUN + ONCE);
    Bench.restart(c, Bench.START, 162, 128, 189, FLAGS + 128 & 255, FLAGS >> 8);
    c.run(5);
    Bench.due("before the read before the carry", c.look(FLAGS), 1);
    c.run(1);
    Bench.due("the access", c.access(), FLAGS);
    Bench.due("behind it", c.look(FLAGS), 0);
  }
}
