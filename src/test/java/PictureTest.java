/** "Terms", THE PICTURE CHIP (promises 11, 12 and 15), each sentence with a test of its own. */
public final class PictureTest {
  private static final int CONTROL = Bench.PICTURE;
  private static final int RASTER = Bench.PICTURE + 1;
  private static final int GROUND = Bench.PICTURE + 2;
  private static final int BORDER = Bench.PICTURE + 3;
  private static final int FLAG = Bench.PICTURE + 4;
  private static final int ENABLE = Bench.PICTURE + 5;
  private static final int BASE = Bench.PICTURE + 6;
  private static final int ON = 16;
  private static final int GROUND_COLOUR = 1;
  private static final int BORDER_COLOUR = 2;

  public static void main(String[] args) {
    lineAndCycle();
    lineAndCycleAtFirst();
    control();
    lineIsRead();
    fourBits();
    flagIsRead();
    flagIsCleared();
    enable();
    othersReadNothing();
    allAreNothingAtFirst();
    registersAreApart();
    flagOfEachLine();
    flagOfNoLine();
    flagIsSetInCycleZeroAlone();
    flagComesBackEachFrame();
    badLines();
    badNeedsOn();
    badIsJudgedInCycleThree();
    wantedCycles();
    fetchesInTheirCycles();
    fetchesRam();
    rowStaysBehindItsFetch();
    moreThanThreeRows();
    rowsCountFromTheFramesStart();
    fewRowsCountFromTheFramesStart();
    pointsComeByEights();
    borderEverywhere();
    borderOutside();
    onInTheMiddle();
    offInTheMiddle();
    idleIsGround();
    groundAndBorderOfNow();
    bitsFromTheLeft();
    codesModulo();
    romIsReadWhenShown();
    for (int shift = 0; shift < 8; shift++) {
      wholeFrame(shift, 7);
    }
    wholeFrame(2, 0);
    wholeFrame(2, 15);
    glyphLineAnew();
    idleBehindEightLines();
    Bench.done();
  }

  private static void part(String sentence) {
    Bench.part("Terms, THE PICTURE CHIP: '" + sentence + "'");
  }

  private static void lineAndCycle() {
    part("A line has 24 cycles, a frame 40 lines; behind 23 comes cycle 0 of the next line, behind line 39 line 0");
    int[] cycles = {22, 23, 24, 47, 48, 958, 959, 960, 961, 983, 984, 1919, 1920};
    for (int n : cycles) {
      Board b = new Board();
      Bench.runCycles(b, n);
      Bench.due("line behind " + n + " cycles", b.beam() / 24, n / 24 % 40);
      Bench.due("cycle behind " + n + " cycles", b.beam() % 24, n % 24);
    }
    Board one = new Board();
    for (int i = 0; i < 50; i++) {
      Bench.due("beam", one.beam(), i);
      one.run(1);
    }
    Board last = new Board();
    last.run(950);
    for (int i = 950; i < 1000; i++) {
      Bench.due("beam", last.beam(), i % 960);
      last.run(1);
    }
  }

  private static void lineAndCycleAtFirst() {
    part("line and cycle are 0 at first");
    Board b = new Board();
    Bench.due("beam", b.beam(), 0);
    Bench.due("the line read", b.look(RASTER), 0);
    b.run(1);
    Bench.due("the flag of line 0, cycle 0", b.look(FLAG), 1);
  }

  private static void control() {
    part("0 CONTROL (bits 0 to 2 SHIFT, bit 4 ON; reading gives these back, the others 0)");
    Board b = new Board();
    for (int value : new int[] {255, 0, 8, 32, 64, 128, 232, 16, 7, 23, 1, 2, 4}) {
      Bench.write(b, CONTROL, value);
      Bench.due("behind " + value, b.look(CONTROL), value & 23);
    }
  }

  private static void lineIsRead() {
    part("1 .. reading: the line");
    for (int line = 0; line < 80; line++) {
      Board b = new Board();
      Bench.runCycles(b, 24 * line);
      Bench.due("in cycle 0", b.look(RASTER), line % 40);
      b.run(23);
      Bench.due("in cycle 23", b.look(RASTER), line % 40);
    }
    Board b = new Board();
    Bench.write(b, RASTER, 200);
    Bench.due("not what was written", b.look(RASTER), 0);
    Bench.runTo(b, 39, 0);
    Bench.due("read by the processor", Bench.read(b, RASTER), 39);
  }

  private static void fourBits() {
    part("2 GROUND, 3 BORDER: their lowest four bits; 6 BASE, its lowest four bits");
    for (int at : new int[] {GROUND, BORDER, BASE}) {
      Board b = new Board();
      for (int value : new int[] {255, 16, 15, 240, 31, 0, 170}) {
        Bench.write(b, at, value);
        Bench.due("register " + (at - CONTROL) + " behind " + value, b.look(at), value % 16);
      }
    }
  }

  private static void flagIsRead() {
    part("4 reading: 1 if the FLAG is set, and 128 more if it and the ENABLE are");
    Board b = new Board();
    Bench.due("none", b.look(FLAG), 0);
    b.run(1);
    Bench.due("the flag", b.look(FLAG), 1);
    Bench.due("read", Bench.read(b, FLAG), 1);
    Bench.write(b, ENABLE, 1);
    Bench.due("both", b.look(FLAG), 129);
    Bench.due("both read", Bench.read(b, FLAG), 129);
    Bench.due("reading clears nothing", b.look(FLAG), 129);
    Bench.write(b, FLAG, 1);
    Bench.due("ENABLE alone", b.look(FLAG), 0);
    Bench.due("ENABLE alone read", Bench.read(b, FLAG), 0);
  }

  private static void flagIsCleared() {
    part("4 .. writing a byte with bit 0: the flag is cleared");
    for (int value = 0; value < 256; value += value < 4 ? 1 : 3) {
      Board b = new Board();
      Bench.write(b, FLAG, value);
      Bench.due("behind " + value, b.look(FLAG), 1 - value % 2);
    }
    Board none = new Board();
    Bench.write(none, FLAG, 1);
    Bench.write(none, FLAG, 254);
    Bench.due("254 sets none", none.look(FLAG), 0);
    Bench.due("and the ENABLE stays", none.look(ENABLE), 0);
  }

  private static void enable() {
    part("5 ENABLE, bit 0");
    Board b = new Board();
    for (int value : new int[] {254, 1, 0, 255, 2, 3, 128}) {
      Bench.write(b, ENABLE, value);
      Bench.due("behind " + value, b.look(ENABLE), value % 2);
      Bench.due("flag behind " + value, b.look(FLAG), value % 2 == 1 ? 129 : 1);
    }
  }

  private static void othersReadNothing() {
    part("Others read 0");
    Board b = new Board();
    Bench.fill(b, Bench.PICTURE + 7, 9, 255);
    for (int which = 7; which < 16; which++) {
      Bench.due("register " + which, b.look(Bench.PICTURE + which), 0);
      Bench.due("register " + which + " read", Bench.read(b, Bench.PICTURE + which), 0);
    }
    for (int which : new int[] {0, 2, 3, 5, 6}) {
      Bench.due("register " + which + " behind writes to others", b.look(Bench.PICTURE + which), 0);
    }
  }

  private static void allAreNothingAtFirst() {
    part("all are 0 at first");
    Board b = new Board();
    for (int which = 0; which < 16; which++) {
      Bench.due("register " + which, b.look(Bench.PICTURE + which), 0);
    }
    b.run(24);
    Bench.due("the line to compare is 0", b.look(FLAG), 1);
    Bench.due("BORDER is 0", b.point(0, 0), 0);
  }

  /** The line to compare, which is not given back, is known by the flag that it sets. */
  private static void registersAreApart() {
    part("Registers: .. each is written alone");
    int[] held = {6, 0, 11, 12, 1, 0, 13, 0, 0, 0, 0, 0, 0, 0, 0, 0};
    for (int which = 0; which < 16; which++) {
      for (int value : new int[] {0, 255, 170, 85}) {
        Board b = new Board();
        Bench.writeAll(b, Bench.PICTURE, 6, 30, 11, 12, 0, 0, 13);
        Bench.write(b, Bench.PICTURE + which, value);
        String name = " behind " + value + " in register " + which;
        for (int other = 0; other < 16; other++) {
          if (other != 1 && other != which) {
            int want = other == 4 && which == 5 && value % 2 == 1 ? 129 : held[other];
            Bench.due("register " + other + name, b.look(Bench.PICTURE + other), want);
          }
        }
        Bench.write(b, FLAG, 1);
        Bench.runTo(b, 30, 0);
        Bench.due("flag before line 30" + name, b.look(FLAG), 0);
        b.run(1);
        Bench.due("flag of line 30" + name, b.look(FLAG) % 2, which == 1 ? 0 : 1);
      }
    }
  }

  private static void flagOfEachLine() {
    part("in cycle 0 of a line the flag is set if the line is the one to compare");
    for (int line = 0; line < 40; line++) {
      Board b = new Board();
      Bench.write(b, RASTER, line);
      Bench.runTo(b, (line + 39) % 40, 12);
      Bench.write(b, FLAG, 1);
      Bench.runTo(b, line, 0);
      Bench.due("before line " + line, b.look(FLAG), 0);
      b.run(1);
      Bench.due("in cycle 0 of line " + line, b.look(FLAG), 1);
    }
  }

  private static void flagOfNoLine() {
    part("the flag is set if the line is the one to compare: no line is above 39");
    for (int value : new int[] {40, 41, 64, 79, 80, 128, 168, 255}) {
      Board b = new Board();
      Bench.write(b, RASTER, value);
      Bench.write(b, FLAG, 1);
      Bench.runCycles(b, 1920);
      Bench.due("line " + value, b.look(FLAG), 0);
    }
  }

  private static void flagIsSetInCycleZeroAlone() {
    part("in cycle 0 of a line the flag is set, and in no other");
    for (int cycle : new int[] {5, 6, 14, 22}) {
      Board b = new Board();
      Bench.write(b, FLAG, 1);
      Bench.writeIn(b, 20, cycle, RASTER, 20);
      Bench.runTo(b, 20, 23);
      Bench.due("written in cycle " + cycle, b.look(FLAG), 0);
      Bench.runTo(b, 20, 0);
      Bench.due("the frame behind it", b.look(FLAG), 0);
      b.run(1);
      Bench.due("its cycle 0", b.look(FLAG), 1);
    }
    Board early = new Board();
    Bench.write(early, FLAG, 1);
    Bench.writeIn(early, 19, 23, RASTER, 20);
    early.run(1);
    Bench.due("written in the cycle before", early.look(FLAG), 1);
  }

  /** Cleared in its own line, it stays clear until the line comes again. */
  private static void flagComesBackEachFrame() {
    part("in cycle 0 of a line the flag is set: in each frame");
    Board b = new Board();
    Bench.write(b, RASTER, 39);
    for (int frame = 0; frame < 3; frame++) {
      Bench.runTo(b, 39, 1);
      Bench.due("set", b.look(FLAG), 1);
      Bench.write(b, FLAG, 1);
      Bench.due("cleared", b.look(FLAG), 0);
      Bench.runTo(b, 39, 0);
      Bench.due("clear still", b.look(FLAG), 0);
    }
  }

  /** A board with these bits in CONTROL whose processor reads in each cycle; the beam is at 0, 0. */
  private static Board reading(int control) {
    Board b = new Board();
    Bench.write(b, CONTROL, control);
    Bench.runTo(b, 0, 0);
    Bench.restart(b, Bench.START, 76, 0, 4);
    return b;
  }

  private static void badLines() {
    part("if the line is 8 .. 31, ON is set and the line modulo 8 is SHIFT, the line is BAD");
    for (int shift = 0; shift < 8; shift++) {
      Board b = reading(ON + shift);
      for (int line = 0; line < 80; line++) {
        boolean bad = line % 40 >= 8 && line % 40 <= 31 && line % 8 == shift;
        Bench.due("SHIFT " + shift + ", line " + line, b.run(24), bad ? 13 : 24);
      }
    }
  }

  private static void badNeedsOn() {
    part("ON is set");
    for (int shift = 0; shift < 8; shift++) {
      Board b = reading(shift);
      Bench.due("SHIFT " + shift + ", not ON", b.run(960), 960);
    }
  }

  private static void wantedCycles() {
    part("In the cycles 3 .. 13 of a bad line the bus is WANTED");
    for (int line : new int[] {8, 31}) {
      Board b = reading(ON + line % 8);
      Bench.runTo(b, line, 0);
      for (int cycle = 0; cycle < 24; cycle++) {
        Bench.due("line " + line + ", cycle " + cycle, b.run(1), cycle >= 3 && cycle <= 13 ? 0 : 1);
      }
    }
  }

  private static void borderEverywhere() {
    part("if .. ON is not set: BORDER");
    Board b = new Board();
    Bench.write(b, BORDER, 5);
    Bench.write(b, GROUND, 6);
    b.run(960);
    for (int line = 0; line < 40; line++) {
      for (int x = 0; x < 64; x++) {
        Bench.due("point(" + line + ", " + x + ")", b.point(line, x), 5);
      }
    }
  }

  /** SHIFT 7 has row 2 in the lines 31 .. 38, of which the first alone is shown. */
  private static void borderOutside() {
    part("if the line is not 8 .. 31 .. : BORDER");
    Board b = lively(7, 7);
    b.run(960);
    for (int line : new int[] {0, 7, 32, 33, 38, 39}) {
      lineIs("outside", b, line, BORDER_COLOUR);
    }
    lineIs("line 8", b, 8, GROUND_COLOUR);
    lineShows("line 31", b, 31, 2, 0);
  }

  private static void idleIsGround() {
    part("if the chip is idle: GROUND");
    for (int shift = 1; shift < 8; shift++) {
      Board b = lively(shift, 7);
      Bench.runTo(b, 18, 0);
      lineIs("before the first bad line", b, 8, GROUND_COLOUR);
      lineIs("before the first bad line", b, 7 + shift, GROUND_COLOUR);
      lineShows("the first bad line", b, 8 + shift, 0, 0);
    }
  }

  /** A board that is ON, colours 1 .. 8 in cells 0 .. 7, GROUND 9, line 8 bad and shown. */
  private static Board oneRow(int glyph, int... codes) {
    Board b = new Board();
    Bench.writeAll(b, Bench.COLOURS, 1, 2, 3, 4, 5, 6, 7, 8);
    Bench.write(b, GROUND, 9);
    Bench.write(b, BASE, 7);
    Bench.write(b, CONTROL, ON);
    Bench.pokeAll(b, 64 * 7, codes);
    for (int code : codes) {
      b.burn(1, 8 * (code % 64), glyph);
    }
    Bench.runTo(b, 9, 0);
    return b;
  }

  private static void bitsFromTheLeft() {
    part("point 8 k + i that of cell k .. if bit 7 - i .. is set, else GROUND");
    for (int i = 0; i < 8; i++) {
      Board b = oneRow(128 >> i, 0, 1, 2, 3, 4, 5, 6, 7);
      for (int x = 0; x < 64; x++) {
        Bench.due("bit " + (7 - i) + ", point " + x, b.point(8, x), x % 8 == i ? 1 + x / 8 : 9);
      }
    }
  }

  private static void codesModulo() {
    part("ROM C's byte 8 * (code modulo 64) + glyph line");
    int[] codes = {0, 63, 64, 127, 128, 191, 192, 255};
    Board b = oneRow(0, codes);
    b.burn(1, 0, 240);
    b.burn(1, 8 * 63, 15);
    b.burn(1, 8 * 63 + 7, 129);
    Bench.runTo(b, 16, 0);
    for (int x = 0; x < 64; x++) {
      Bench.due("last glyph line, point " + x, b.point(15, x),
          codes[x / 8] % 64 == 63 && (x % 8 == 0 || x % 8 == 7) ? 1 + x / 8 : 9);
    }
    Bench.runTo(b, 9, 0);
    for (int x = 0; x < 64; x++) {
      boolean left = x % 8 < 4;
      Bench.due("first glyph line, point " + x, b.point(8, x), left == (codes[x / 8] % 64 == 0) ? 1 + x / 8 : 9);
    }
  }

  private static void pointsComeByEights() {
    part("In cycle 6 + k of each line eight POINTS, 8 k .. 8 k + 7, get colours");
    for (int line : new int[] {0, 7, 20, 39}) {
      Board b = new Board();
      Bench.write(b, BORDER, 9);
      b.run(960);
      Bench.runTo(b, (line + 39) % 40, 14);
      Bench.write(b, BORDER, 10);
      Bench.runTo(b, line, 0);
      for (int cycle = 0; cycle < 24; cycle++) {
        b.run(1);
        int painted = Math.max(0, Math.min(64, 8 * (cycle - 5)));
        for (int x = 0; x < 64; x += x % 8 == 0 ? 7 : 1) {
          Bench.due("line " + line + ", cycle " + cycle + ", point " + x, b.point(line, x), x < painted ? 10 : 9);
        }
      }
    }
  }

  /** Codes, colours and glyphs that differ everywhere, the chip on; the beam is at 35, 0. */
  private static Board lively(int shift, int base) {
    Board b = new Board();
    int[] colours = new int[24];
    for (int i = 0; i < 24; i++) {
      colours[i] = colour(i);
      for (int glyphLine = 0; glyphLine < 8; glyphLine++) {
        int at = 8 * (code(i) % 64) + glyphLine;
        b.burn(1, at, glyph(at));
      }
    }
    Bench.writeAll(b, Bench.COLOURS, colours);
    Bench.writeAll(b, GROUND, GROUND_COLOUR, BORDER_COLOUR);
    Bench.write(b, BASE, base);
    Bench.write(b, CONTROL, ON + shift);
    for (int i = 0; i < 24; i++) {
      b.poke(64 * base + i, code(i));
    }
    Bench.runTo(b, 35, 0);
    return b;
  }

  private static int glyph(int i) {
    return (i * 37 + i / 8 * 11 + 90) & 255;
  }

  private static int code(int i) {
    return (i * 29 + 50) & 255;
  }

  private static int colour(int i) {
    return 3 + i % 13;
  }

  private static int cellPoint(int cell, int glyphLine, int x) {
    int bits = glyph(8 * (code(cell) % 64) + glyphLine);
    return (bits >> (7 - x % 8)) % 2 == 1 ? colour(cell) : GROUND_COLOUR;
  }

  private static void lineShows(String name, Board b, int line, int row, int glyphLine) {
    for (int x = 0; x < 64; x++) {
      Bench.due(name + ": point(" + line + ", " + x + ")", b.point(line, x),
          cellPoint(8 * row + x / 8, glyphLine, x));
    }
  }

  private static void lineIs(String name, Board b, int line, int colour) {
    for (int x = 0; x < 64; x++) {
      Bench.due(name + ": point(" + line + ", " + x + ")", b.point(line, x), colour);
    }
  }

  private static void wholeFrame(int shift, int base) {
    part("In cycle 23, if the chip is not idle, the glyph line grows by 1");
    Board b = lively(shift, base);
    b.run(960);
    String name = "shift " + shift + ", base " + base;
    for (int line = 0; line < 40; line++) {
      int fromFirst = line - 8 - shift;
      if (line < 8 || line > 31) {
        lineIs(name, b, line, BORDER_COLOUR);
      } else if (fromFirst < 0) {
        lineIs(name, b, line, GROUND_COLOUR);
      } else {
        lineShows(name, b, line, fromFirst / 8, fromFirst % 8);
      }
    }
  }

  /** In each cycle the codes are changed before it: those that were fetched earlier are the old ones. */
  private static void fetchesInTheirCycles() {
    part("in cycle 6 + k, k from 0 to 7, cell k gets as its code the RAM's byte");
    for (int cycle = 5; cycle <= 14; cycle++) {
      Board b = lively(0, 7);
      Bench.runTo(b, 8, cycle);
      for (int k = 0; k < 8; k++) {
        b.poke(64 * 7 + k, code(8 + k));
      }
      Bench.runTo(b, 9, 0);
      for (int x = 0; x < 64; x++) {
        int old = cellPoint(x / 8, 0, x);
        int bits = glyph(8 * (code(8 + x / 8) % 64));
        int changed = (bits >> (7 - x % 8)) % 2 == 1 ? colour(x / 8) : GROUND_COLOUR;
        Bench.due("changed before cycle " + cycle + ", point " + x, b.point(8, x),
            6 + x / 8 < cycle ? old : changed);
      }
    }
  }

  /** BASE 0 reaches address 1, where the map has the port. */
  private static void fetchesRam() {
    part("the RAM's byte at 64 * BASE");
    Board b = lively(0, 0);
    Bench.due("the map shows the port", b.look(1), 7);
    Bench.runTo(b, 9, 0);
    lineShows("BASE 0", b, 8, 0, 0);
  }

  private static void rowStaysBehindItsFetch() {
    part("that of cell k (as fetched by then)");
    Board b = lively(1, 7);
    Bench.runTo(b, 9, 14);
    for (int i = 0; i < 24; i++) {
      b.poke(64 * 7 + i, 0);
    }
    for (int k = 0; k < 8; k++) {
      Bench.write(b, Bench.COLOURS + k, 0);
    }
    Bench.runTo(b, 17, 0);
    lineShows("row as fetched", b, 16, 0, 7);
  }

  private static void romIsReadWhenShown() {
    part("if bit 7 - i of ROM C's byte .. is set: as it is in that cycle");
    Board b = lively(1, 7);
    Bench.runTo(b, 12, 6);
    for (int k = 0; k < 8; k++) {
      b.burn(1, 8 * (code(k) % 64) + 3, 255);
    }
    Bench.runTo(b, 12, 14);
    for (int x = 0; x < 64; x++) {
      Bench.due("new glyphs", b.point(12, x), colour(x / 8));
    }
    lineShows("old glyphs", b, 11, 0, 2);
  }

  /** A bad line in the middle of a row: the row that it fetches begins with its first glyph line. */
  private static void glyphLineAnew() {
    part("the line is BAD: the chip is idle no more, its GLYPH LINE is 0");
    Board b = lively(0, 7);
    Bench.writeIn(b, 11, 20, CONTROL, ON + 5);
    Bench.runTo(b, 22, 0);
    lineShows("row 0", b, 12, 0, 4);
    lineShows("row 1 cuts it off", b, 13, 1, 0);
    lineShows("row 1", b, 20, 1, 7);
    lineShows("row 2", b, 21, 2, 0);
  }

  /** Behind a row's last glyph line ROM C has the next code's first one, which must not show. */
  private static void idleBehindEightLines() {
    part("when it was 7 the chip is idle");
    Board b = lively(0, 7);
    for (int k = 0; k < 8; k++) {
      b.burn(1, 8 * (code(k) % 64) + 8, 255);
    }
    Bench.runTo(b, 9, 0);
    Bench.write(b, CONTROL, ON + 7);
    Bench.runTo(b, 10, 0);
    Bench.writeIn(b, 14, 20, CONTROL, ON + 2);
    Bench.runTo(b, 32, 0);
    lineShows("last glyph line", b, 15, 0, 7);
    lineIs("idle", b, 16, GROUND_COLOUR);
    lineIs("idle", b, 17, GROUND_COLOUR);
    lineShows("the next bad line", b, 18, 1, 0);
    lineShows("the next bad line", b, 26, 2, 0);
    lineShows("cut off", b, 31, 2, 5);
    b.run(1);
    Bench.runTo(b, 0, 0);
    b.run(1);
    Bench.runTo(b, 10, 0);
    lineIs("idle from line 0 on", b, 8, GROUND_COLOUR);
    lineIs("idle from line 0 on", b, 9, GROUND_COLOUR);
  }

  /** A bad line in each of eight lines: the fourth row is the first again. */
  private static void moreThanThreeRows() {
    part("8 * (rows fetched modulo 3) + k; in cycle 14 the number of rows fetched grows by 1");
    Board b = lively(0, 7);
    for (int line = 9; line < 16; line++) {
      Bench.writeIn(b, line - 1, 21, CONTROL, ON + line % 8);
    }
    Bench.runTo(b, 18, 0);
    for (int line = 8; line < 16; line++) {
      lineShows("each line bad", b, line, (line - 8) % 3, 0);
    }
    lineShows("behind the last bad line", b, 16, 7 % 3, 1);
  }

  private static void rowsCountFromTheFramesStart() {
    part("if the line is 0, .. the number of rows fetched is 0");
    Board b = lively(0, 7);
    Bench.writeIn(b, 20, 20, CONTROL, ON + 6);
    Bench.runTo(b, 32, 0);
    lineShows("third row of the frame", b, 22, 2, 0);
    lineShows("fourth row of the frame", b, 30, 0, 0);
    Bench.runTo(b, 23, 0);
    lineIs("next frame", b, 13, GROUND_COLOUR);
    lineShows("next frame", b, 14, 0, 0);
    lineShows("next frame", b, 22, 1, 0);
  }

  /** ON is cleared behind the first bad line, so that the frame has a single row. */
  private static void fewRowsCountFromTheFramesStart() {
    part("if the line is 0, .. the number of rows fetched is 0, behind a frame of few rows");
    Board b = lively(0, 7);
    Bench.writeIn(b, 9, 20, CONTROL, 0);
    Bench.writeIn(b, 33, 20, CONTROL, ON);
    Bench.runTo(b, 17, 0);
    lineShows("first row of the next frame", b, 8, 0, 0);
    lineShows("second row of the next frame", b, 16, 1, 0);
  }

  private static void onInTheMiddle() {
    part("or ON is not set: BORDER .. in cycle 6 + k");
    Board b = lively(0, 7);
    Bench.write(b, CONTROL, 0);
    Bench.runTo(b, 5, 0);
    Bench.writeIn(b, 12, 9, CONTROL, ON);
    Bench.runTo(b, 18, 0);
    for (int x = 0; x < 64; x++) {
      Bench.due("on in line 12: " + x, b.point(12, x), x < 32 ? BORDER_COLOUR : GROUND_COLOUR);
    }
    lineIs("off", b, 11, BORDER_COLOUR);
    lineIs("on, idle", b, 13, GROUND_COLOUR);
    lineShows("on, bad", b, 16, 0, 0);
  }

  /** The glyph line grows while ON is not set, too. */
  private static void offInTheMiddle() {
    part("In cycle 23, if the chip is not idle, the glyph line grows by 1: whether ON is set or not");
    Board b = lively(0, 7);
    Bench.writeIn(b, 10, 20, CONTROL, 0);
    Bench.writeIn(b, 12, 20, CONTROL, ON);
    Bench.runTo(b, 16, 0);
    lineShows("on still", b, 10, 0, 2);
    lineIs("off", b, 11, BORDER_COLOUR);
    lineIs("off", b, 12, BORDER_COLOUR);
    lineShows("on again", b, 13, 0, 5);
  }

  /** A write in cycle 2 counts; one in cycle 3 comes too late, either way. */
  private static void badIsJudgedInCycleThree() {
    part("In cycle 3 .. the line is BAD");
    Board early = lively(7, 7);
    Bench.writeIn(early, 9, 2, CONTROL, ON + 1);
    Bench.runTo(early, 10, 0);
    lineShows("in cycle 2", early, 9, 0, 0);
    Board late = lively(7, 7);
    Bench.writeIn(late, 9, 3, CONTROL, ON + 1);
    Bench.runTo(late, 10, 0);
    lineIs("in cycle 3", late, 9, GROUND_COLOUR);
    Board away = lively(1, 7);
    Bench.writeIn(away, 9, 3, CONTROL, ON + 5);
    Bench.runTo(away, 10, 0);
    lineShows("bad still", away, 9, 0, 0);
    Board off = lively(1, 7);
    Bench.writeIn(off, 9, 3, CONTROL, 1);
    Bench.runTo(off, 10, 0);
    lineIs("off in cycle 3", off, 9, BORDER_COLOUR);
    Bench.writeIn(off, 10, 9, CONTROL, ON);
    Bench.runTo(off, 12, 0);
    lineShows("fetched still", off, 11, 0, 2);
  }

  private static void groundAndBorderOfNow() {
    part("In cycle 6 + k .. get colours: BORDER and GROUND as they are in that cycle");
    Board b = lively(0, 7);
    Bench.writeIn(b, 33, 9, BORDER, 14);
    Bench.runTo(b, 34, 0);
    Bench.due("border before", b.point(33, 31), BORDER_COLOUR);
    Bench.due("border behind", b.point(33, 32), 14);
    Bench.writeIn(b, 7, 20, CONTROL, ON + 7);
    Bench.writeIn(b, 8, 9, GROUND, 13);
    Bench.runTo(b, 9, 0);
    Bench.due("ground before", b.point(8, 31), GROUND_COLOUR);
    Bench.due("ground behind", b.point(8, 32), 13);
  }
}
