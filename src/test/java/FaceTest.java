/** The constant, the new object (promise 1), and what each call refuses (2, 3, 5 to 9, 12). */
public final class FaceTest {
  public static void main(String[] args) {
    Bench.due("NONE", HomeBoard.NONE, -1);
    newObject();
    newPictureAndInterface();
    burns();
    pokes();
    presses();
    runs();
    looks();
    points();
    counts();
    Bench.done();
  }

  private static void newObject() {
    Board b = new Board();
    Bench.due("new: state", Bench.state(b), "A0 X0 Y0 S255 F4 P0");
    Bench.due("new: port", b.register(6), 7);
    Bench.due("new: jammed", b.jammed(), true);
    Bench.due("new: beam", b.beam(), 0);
    Bench.due("new: access", b.access(), -1);
    Bench.due("new: cycles", b.cycles(), 0);
    Bench.due("new: stolen", b.stolen(), 0);
    Bench.due("new: interrupts", b.interrupts(), 0);
    for (int at = 0; at < 8192; at++) {
      Bench.due("new: ram(" + at + ")", b.ram(at), 0);
    }
    for (int line = 0; line < 40; line++) {
      for (int x = 0; x < 64; x++) {
        Bench.due("new: point(" + line + ", " + x + ")", b.point(line, x), 0);
      }
    }
    b.burn(2, 1020, 52);
    b.burn(2, 1021, 18);
    Bench.due("P before power()", b.register(5), 0);
    Bench.due("run(30) of a jammed one", b.run(30), 0);
    Bench.due("beam behind it", b.beam(), 30);
    Bench.due("access behind it", b.access(), -1);
  }

  private static void newPictureAndInterface() {
    Board b = new Board();
    for (int at = 6656; at < 7168; at++) {
      int place = at - 6656;
      int want = 0;
      if (place >= 64 && place < 128) {
        int which = place % 16;
        want = which == 1 || (which >= 4 && which <= 7) ? 255 : 0;
      }
      Bench.due("new: look(" + at + ")", b.look(at), want);
    }
    Bench.due("new: look(1)", b.look(1), 7);
  }

  private static void burns() {
    Board b = new Board();
    int[] sizes = {1024, 512, 1024};
    for (int rom = 0; rom < 3; rom++) {
      Bench.due("burn first of " + rom, b.burn(rom, 0, 10 + rom), true);
      Bench.due("burn last of " + rom, b.burn(rom, sizes[rom] - 1, 255 - rom), true);
      Bench.due("burn behind the last of " + rom, b.burn(rom, sizes[rom], 1), false);
      Bench.due("burn before the first of " + rom, b.burn(rom, -1, 1), false);
      Bench.due("burn 256 into " + rom, b.burn(rom, 0, 256), false);
      Bench.due("burn -1 into " + rom, b.burn(rom, 0, -1), false);
    }
    Bench.due("burn(-1, 0, 0)", b.burn(-1, 0, 0), false);
    Bench.due("burn(3, 0, 0)", b.burn(3, 0, 0), false);
    Bench.due("burn far", b.burn(0, Integer.MAX_VALUE, 0), false);
    Bench.due("burn far below", b.burn(0, Integer.MIN_VALUE, 0), false);
    Bench.due("A's first", b.look(5120), 10);
    Bench.due("A's last", b.look(6143), 255);
    Bench.due("K's first", b.look(7168), 12);
    Bench.due("K's last", b.look(8191), 253);
    Bench.write(b, 1, 3);
    Bench.due("C's first", b.look(6656), 11);
    Bench.due("C's last", b.look(7167), 254);
    Bench.due("burn 0", b.burn(0, 5, 0), true);
    Bench.due("burn 255", b.burn(0, 5, 255), true);
  }

  private static void pokes() {
    Board b = new Board();
    Bench.due("poke(0, 255)", b.poke(0, 255), true);
    Bench.due("poke(8191, 7)", b.poke(8191, 7), true);
    Bench.due("poke(1, 0)", b.poke(1, 0), true);
    Bench.due("poke(1, 200)", b.poke(1, 200), true);
    Bench.due("poke(-1, 7)", b.poke(-1, 7), false);
    Bench.due("poke(8192, 7)", b.poke(8192, 7), false);
    Bench.due("poke(2, 256)", b.poke(2, 256), false);
    Bench.due("poke(2, -1)", b.poke(2, -1), false);
    Bench.due("ram(0)", b.ram(0), 255);
    Bench.due("ram(8191)", b.ram(8191), 7);
    Bench.due("ram(1)", b.ram(1), 200);
    Bench.due("the port behind poke(1, 200)", b.register(6), 7);
    Bench.due("ram(2)", b.ram(2), 0);
    Bench.due("ram(-1)", b.ram(-1), -1);
    Bench.due("ram(8192)", b.ram(8192), -1);
    Bench.due("poke(6657, 9)", b.poke(6657, 9), true);
    Bench.due("ram(6657)", b.ram(6657), 9);
    Bench.due("look(6657)", b.look(6657), 0);
  }

  private static void presses() {
    Board b = new Board();
    Bench.due("press(-1, 1)", b.press(-1, 1), false);
    Bench.due("press(8, 1)", b.press(8, 1), false);
    Bench.due("press(0, 256)", b.press(0, 256), false);
    Bench.due("press(0, -1)", b.press(0, -1), false);
    Bench.due("no key behind what was refused", b.look(6721), 255);
    Bench.due("press(0, 128)", b.press(0, 128), true);
    Bench.due("press(7, 1)", b.press(7, 1), true);
    Bench.due("both seen", b.look(6721), 126);
    Bench.due("press(7, 0)", b.press(7, 0), true);
    Bench.due("one seen", b.look(6721), 127);
    Bench.due("press(0, 255)", b.press(0, 255), true);
    Bench.due("all seen", b.look(6721), 0);
  }

  private static void runs() {
    Board b = Bench.board(76, 0, 4);
    Bench.due("run(0)", b.run(0), -1);
    Bench.due("run(-1)", b.run(-1), -1);
    Bench.due("run(1001)", b.run(1001), -1);
    Bench.due("run(MIN)", b.run(Integer.MIN_VALUE), -1);
    Bench.due("cycles behind refused runs", b.cycles(), 0);
    Bench.due("run(1)", b.run(1), 1);
    Bench.due("cycles", b.cycles(), 1);
    Bench.due("run(1000)", b.run(1000), 1000);
    Bench.due("cycles", b.cycles(), 1001);
    Bench.due("beam", b.beam(), 41);
  }

  private static void looks() {
    Board b = new Board();
    Bench.due("look(-1)", b.look(-1), -1);
    Bench.due("look(8192)", b.look(8192), -1);
    Bench.due("register(-1)", b.register(-1), -1);
    Bench.due("register(7)", b.register(7), -1);
  }

  private static void points() {
    Board b = new Board();
    Bench.due("point(-1, 0)", b.point(-1, 0), -1);
    Bench.due("point(40, 0)", b.point(40, 0), -1);
    Bench.due("point(0, -1)", b.point(0, -1), -1);
    Bench.due("point(0, 64)", b.point(0, 64), -1);
    Bench.due("point(39, 63)", b.point(39, 63), 0);
  }

  private static void counts() {
    Board b = Bench.board(76, 0, 4);
    for (int i = 1; i <= 5; i++) {
      b.run(960);
      Bench.due("beam behind a frame", b.beam(), 0);
      Bench.due("cycles behind a frame", b.cycles(), 960 * i);
    }
    b.power();
    Bench.due("cycles behind power()", b.cycles(), 4800);
    b.run(23);
    Bench.due("beam", b.beam(), 23);
    b.run(1);
    Bench.due("beam", b.beam(), 24);
  }
}
