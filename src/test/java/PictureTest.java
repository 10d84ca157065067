/** The picture chip: its registers, the beam (promise 11), the flag and the points (promise 12). */
public final class PictureTest {
  private static final int CONTROL = Bench.PICTURE;
  private static final int RASTER = Bench.PICTURE + 1;
  private static final int GROUND = Bench.PICTURE + 2;
  private static final int BORDER = Bench.PICTURE + 3;
  private static final int FLAG = Bench.PICTURE + 4;
  private static final int ENABLE = Bench.PICTURE + 5;
  private static final int BASE = Bench.PICTURE + 6;
  private static final int ON = 16;
  private static final int GROUND_COLOUR = 1;
  private static final int BORDER_COLOUR = 2;

  public static void main(String[] args) {
    registers();
    lineIsRead();
    rasterFlag();
    borderEverywhere();
    pointsComeByEights();
    for (int shift = 0; shift < 8; shift++) {
      wholeFrame(shift, 7);
    }
    wholeFrame(2, 0);
    wholeFrame(2, 15);
    fetchesInTheirCycles();
    rowStaysBehindItsFetch();
    romIsReadWhenShown();
    idleBehindEightLines();
    moreThanThreeRows();
    rowsCountFromTheFramesStart();
    onInTheMiddle();
    offInTheMiddle();
    badIsJudgedInCycleThree();
    groundAndBorderOfNow();
    Bench.done();
  }

  private static void registers() {
    int[] kept = {23, 0, 15, 15, 0, 1, 15, 0, 0, 0, 0, 0, 0, 0, 0, 0};
    for (int which = 0; which < 16; which++) {
      if (which == 1 || which == 4) {
        continue;
      }
      Board b = new Board();
      Bench.write(b, Bench.PICTURE + which, 255);
      Bench.due("picture register " + which, b.look(Bench.PICTURE + which), kept[which]);
      Bench.write(b, Bench.PICTURE + which, 0);
      Bench.due("picture register " + which, b.look(Bench.PICTURE + which), 0);
      Bench.write(b, Bench.PICTURE + which, 85);
      Bench.due("picture register " + which, b.look(Bench.PICTURE + which), 85 & kept[which]);
    }
  }

  private static void lineIsRead() {
    for (int line = 0; line < 80; line++) {
      Board b = new Board();
      Bench.runCycles(b, 24 * line);
      for (int cycle = 0; cycle < 24; cycle++) {
        Bench.due("beam", b.beam(), line % 40 * 24 + cycle);
        Bench.due("line", b.look(RASTER), line % 40);
        b.run(1);
      }
    }
  }

  private static void rasterFlag() {
    Board b = new Board();
    Bench.due("flag before line 0", b.look(FLAG), 0);
    b.run(1);
    Bench.due("flag in line 0", b.look(FLAG), 1);
    Bench.write(b, FLAG, 254);
    Bench.due("flag behind 254", b.look(FLAG), 1);
    Bench.due("flag behind being read", Bench.read(b, FLAG), 1);
    Bench.due("flag behind being read", b.look(FLAG), 1);
    Bench.write(b, ENABLE, 1);
    Bench.due("flag and enable", b.look(FLAG), 129);
    Bench.write(b, FLAG, 1);
    Bench.due("flag cleared", b.look(FLAG), 0);
    Bench.write(b, RASTER, 39);
    Bench.due("register 1 reads the line still", b.look(RASTER), b.beam() / 24);
    Bench.runTo(b, 39, 0);
    Bench.due("flag before line 39", b.look(FLAG), 0);
    b.run(1);
    Bench.due("flag in line 39", b.look(FLAG), 129);
    Bench.write(b, FLAG, 255);
    Bench.write(b, RASTER, 39);
    Bench.due("not in a later cycle of the line", b.look(FLAG), 0);
    Bench.write(b, RASTER, 40);
    Bench.runCycles(b, 1920);
    Bench.due("never in line 40", b.look(FLAG), 0);
    Bench.write(b, RASTER, 20);
    Bench.runTo(b, 20, 1);
    Bench.due("in line 20", b.look(FLAG), 129);
  }

  private static void borderEverywhere() {
    Board b = new Board();
    Bench.write(b, BORDER, 5);
    Bench.write(b, GROUND, 6);
    b.run(960);
    for (int line = 0; line < 40; line++) {
      for (int x = 0; x < 64; x++) {
        Bench.due("border at " + line + ", " + x, b.point(line, x), 5);
      }
    }
  }

  private static void pointsComeByEights() {
    Board b = new Board();
    Bench.write(b, BORDER, 9);
    Bench.runTo(b, 2, 0);
    for (int cycle = 0; cycle < 24; cycle++) {
      b.run(1);
      int painted = Math.max(0, Math.min(64, 8 * (cycle - 5)));
      for (int x = 0; x < 64; x++) {
        Bench.due("cycle " + cycle + ", point " + x, b.point(2, x), x < painted ? 9 : 0);
      }
      Bench.due("the next line", b.point(3, 0), 0);
    }
  }

  /** Codes, colours and glyphs that differ everywhere, the chip on; the beam is at 35, 0. */
  private static Board lively(int shift, int base) {
    Board b = new Board();
    int[] colours = new int[24];
    for (int i = 0; i < 24; i++) {
      colours[i] = colour(i);
      for (int glyphLine = 0; glyphLine < 8; glyphLine++) {
        int at = 8 * (code(i) % 64) + glyphLine;
        b.burn(1, at, glyph(at));
      }
    }
    Bench.writeAll(b, Bench.COLOURS, colours);
    Bench.writeAll(b, GROUND, GROUND_COLOUR, BORDER_COLOUR);
    Bench.write(b, BASE, base);
    Bench.write(b, CONTROL, ON + shift);
    for (int i = 0; i < 24; i++) {
      b.poke(64 * base + i, code(i));
    }
    Bench.runTo(b, 35, 0);
    return b;
  }

  private static int glyph(int i) {
    return (i * 37 + i / 8 * 11 + 90) & 255;
  }

  private static int code(int i) {
    return (i * 29 + 50) & 255;
  }

  private static int colour(int i) {
    return 3 + i % 13;
  }

  private static int cellPoint(int cell, int glyphLine, int x) {
    int bits = glyph(8 * (code(cell) % 64) + glyphLine);
    return (bits >> (7 - x % 8)) % 2 == 1 ? colour(cell) : GROUND_COLOUR;
  }

  private static void lineShows(String name, Board b, int line, int row, int glyphLine) {
    for (int x = 0; x < 64; x++) {
      Bench.due(name + ": point(" + line + ", " + x + ")", b.point(line, x),
          cellPoint(8 * row + x / 8, glyphLine, x));
    }
  }

  private static void lineIs(String name, Board b, int line, int colour) {
    for (int x = 0; x < 64; x++) {
      Bench.due(name + ": point(" + line + ", " + x + ")", b.point(line, x), colour);
    }
  }

  private static void wholeFrame(int shift, int base) {
    Board b = lively(shift, base);
    b.run(960);
    String name = "shift " + shift + ", base " + base;
    for (int line = 0; line < 40; line++) {
      int fromFirst = line - 8 - shift;
      if (line < 8 || line > 31) {
        lineIs(name, b, line, BORDER_COLOUR);
      } else if (fromFirst < 0) {
        lineIs(name, b, line, GROUND_COLOUR);
      } else {
        lineShows(name, b, line, fromFirst / 8, fromFirst % 8);
      }
    }
  }

  private static void fetchesInTheirCycles() {
    Board b = lively(0, 7);
    Bench.runTo(b, 8, 10);
    for (int k = 0; k < 8; k++) {
      b.poke(64 * 7 + k, code(8 + k));
    }
    Bench.runTo(b, 9, 0);
    for (int x = 0; x < 64; x++) {
      int old = cellPoint(x / 8, 0, x);
      int bits = glyph(8 * (code(8 + x / 8) % 64));
      int changed = (bits >> (7 - x % 8)) % 2 == 1 ? colour(x / 8) : GROUND_COLOUR;
      Bench.due("codes changed before cycle 10: " + x, b.point(8, x), x < 32 ? old : changed);
    }
  }

  private static void rowStaysBehindItsFetch() {
    Board b = lively(1, 7);
    Bench.runTo(b, 9, 14);
    for (int i = 0; i < 24; i++) {
      b.poke(64 * 7 + i, 0);
    }
    for (int k = 0; k < 8; k++) {
      Bench.write(b, Bench.COLOURS + k, 0);
    }
    Bench.runTo(b, 17, 0);
    lineShows("row as fetched", b, 16, 0, 7);
  }

  private static void romIsReadWhenShown() {
    Board b = lively(1, 7);
    Bench.runTo(b, 12, 6);
    for (int k = 0; k < 8; k++) {
      b.burn(1, 8 * (code(k) % 64) + 3, 255);
    }
    Bench.runTo(b, 12, 14);
    for (int x = 0; x < 64; x++) {
      Bench.due("new glyphs", b.point(12, x), colour(x / 8));
    }
    lineShows("old glyphs", b, 11, 0, 2);
  }

  private static void idleBehindEightLines() {
    Board b = lively(0, 7);
    Bench.runTo(b, 9, 0);
    Bench.write(b, CONTROL, ON + 7);
    Bench.runTo(b, 10, 0);
    Bench.writeIn(b, 14, 20, CONTROL, ON + 2);
    Bench.runTo(b, 32, 0);
    lineShows("last glyph line", b, 15, 0, 7);
    lineIs("idle", b, 16, GROUND_COLOUR);
    lineIs("idle", b, 17, GROUND_COLOUR);
    lineShows("the next bad line", b, 18, 1, 0);
    lineShows("the next bad line", b, 26, 2, 0);
    lineShows("cut off", b, 31, 2, 5);
    b.run(1);
    Bench.runTo(b, 0, 0);
    b.run(1);
    Bench.runTo(b, 10, 0);
    lineIs("idle from line 0 on", b, 8, GROUND_COLOUR);
    lineIs("idle from line 0 on", b, 9, GROUND_COLOUR);
  }

  /** A bad line in each of eight lines: the fourth row is the first again. */
  private static void moreThanThreeRows() {
    Board b = lively(0, 7);
    for (int line = 9; line < 16; line++) {
      Bench.writeIn(b, line - 1, 21, CONTROL, ON + line % 8);
    }
    Bench.runTo(b, 18, 0);
    for (int line = 8; line < 16; line++) {
      lineShows("each line bad", b, line, (line - 8) % 3, 0);
    }
    lineShows("behind the last bad line", b, 16, 7 % 3, 1);
  }

  private static void rowsCountFromTheFramesStart() {
    Board b = lively(0, 7);
    Bench.writeIn(b, 20, 20, CONTROL, ON + 6);
    Bench.runTo(b, 32, 0);
    lineShows("third row of the frame", b, 22, 2, 0);
    lineShows("fourth row of the frame", b, 30, 0, 0);
    Bench.runTo(b, 23, 0);
    lineIs("next frame", b, 13, GROUND_COLOUR);
    lineShows("next frame", b, 14, 0, 0);
    lineShows("next frame", b, 22, 1, 0);
  }

  private static void onInTheMiddle() {
    Board b = lively(0, 7);
    Bench.write(b, CONTROL, 0);
    Bench.runTo(b, 5, 0);
    Bench.writeIn(b, 12, 9, CONTROL, ON);
    Bench.runTo(b, 18, 0);
    for (int x = 0; x < 64; x++) {
      Bench.due("on in line 12: " + x, b.point(12, x), x < 32 ? BORDER_COLOUR : GROUND_COLOUR);
    }
    lineIs("off", b, 11, BORDER_COLOUR);
    lineIs("on, idle", b, 13, GROUND_COLOUR);
    lineShows("on, bad", b, 16, 0, 0);
  }

  /** The glyph line grows while ON is not set, too. */
  private static void offInTheMiddle() {
    Board b = lively(0, 7);
    Bench.writeIn(b, 10, 20, CONTROL, 0);
    Bench.writeIn(b, 12, 20, CONTROL, ON);
    Bench.runTo(b, 16, 0);
    lineShows("on still", b, 10, 0, 2);
    lineIs("off", b, 11, BORDER_COLOUR);
    lineIs("off", b, 12, BORDER_COLOUR);
    lineShows("on again", b, 13, 0, 5);
  }

  /** A write in cycle 2 counts; one in cycle 3 comes too late, either way. */
  private static void badIsJudgedInCycleThree() {
    Board early = lively(7, 7);
    Bench.writeIn(early, 9, 2, CONTROL, ON + 1);
    Bench.runTo(early, 10, 0);
    lineShows("in cycle 2", early, 9, 0, 0);
    Board late = lively(7, 7);
    Bench.writeIn(late, 9, 3, CONTROL, ON + 1);
    Bench.runTo(late, 10, 0);
    lineIs("in cycle 3", late, 9, GROUND_COLOUR);
    Board away = lively(1, 7);
    Bench.writeIn(away, 9, 3, CONTROL, ON + 5);
    Bench.runTo(away, 10, 0);
    lineShows("bad still", away, 9, 0, 0);
    Board off = lively(1, 7);
    Bench.writeIn(off, 9, 3, CONTROL, 1);
    Bench.runTo(off, 10, 0);
    lineIs("off in cycle 3", off, 9, BORDER_COLOUR);
    Bench.writeIn(off, 10, 9, CONTROL, ON);
    Bench.runTo(off, 12, 0);
    lineShows("fetched still", off, 11, 0, 2);
  }

  private static void groundAndBorderOfNow() {
    Board b = lively(0, 7);
    Bench.writeIn(b, 33, 9, BORDER, 14);
    Bench.runTo(b, 34, 0);
    Bench.due("border before", b.point(33, 31), BORDER_COLOUR);
    Bench.due("border behind", b.point(33, 32), 14);
    Bench.writeIn(b, 7, 20, CONTROL, ON + 7);
    Bench.writeIn(b, 8, 9, GROUND, 13);
    Bench.runTo(b, 9, 0);
    Bench.due("ground before", b.point(8, 31), GROUND_COLOUR);
    Bench.due("ground behind", b.point(8, 32), 13);
  }
}
