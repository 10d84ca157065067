/** The boundary cases of "Terms" up to REGISTERS, each sentence with a test of its own. */
public final class MemoryEdgesTest {
  private static final int SLICE = 64;
  private static final int[] EDGES = {
    0, 2, 255, 256, 511, 5119, 5120, 6143, 6144, 6655, 6656, 6814, 7167, 7168, 8187
  };

  public static void main(String[] args) {
    everyByte();
    addressesOfReads();
    addressesOfWrites();
    addressesOfCodes();
    addressesOfPortAndRegisters();
    wordsOfStartAndInterrupt();
    wordsOfInstructions();
    ramBytesAreApart();
    romBytesAreApart();
    romsAreNothingAtFirst();
    portAtFirst();
    portIsRead();
    for (int port = 0; port < 8; port++) {
      wholeMap(port);
      programReads(port);
      programWrites(port);
    }
    portKeepsThreeBits();
    portIsNoRam();
    picturePlaces();
    interfacePlaces();
    colourPlaces();
    coloursAreFourBits();
    otherPlacesRead();
    otherPlacesWritten();
    Bench.done();
  }

  private static void everyByte() {
    Bench.part("Terms, 'BYTES are 0 .. 255'");
    for (int from = 0; from < 256; from += 64) {
      Board b = Bench.board(165, 200, 133, 201);
      for (int value = from; value < from + 64; value++) {
        Bench.due("poke of " + value, b.poke(200, value), true);
        b.power();
        b.run(6);
        Bench.due("read and written", b.ram(201), value);
      }
    }
  }

  private static void addressesOfReads() {
    Bench.part("Terms, 'addresses are taken modulo 8192': reads");
    for (int k = 0; k < 8; k++) {
      Board b = new Board();
      b.poke(0, 50);
      b.poke(1536, 51);
      Bench.due("at " + 8192 * k, Bench.read(b, 8192 * k), 50);
      Bench.due("at " + (8192 * k + 1536), Bench.read(b, 8192 * k + 1536), 51);
      Bench.due("at " + (8192 * k + 8191), Bench.read(b, 8192 * k + 8191), Bench.HANDLER >> 8);
    }
  }

  private static void addressesOfWrites() {
    Bench.part("Terms, 'addresses are taken modulo 8192': writes");
    for (int k = 0; k < 8; k++) {
      Board b = new Board();
      Bench.write(b, 8192 * k, 60);
      Bench.write(b, 8192 * k + 1536, 61);
      Bench.write(b, 8192 * k + 8191, 62);
      Bench.due("ram(0) by " + 8192 * k, b.ram(0), 60);
      Bench.due("ram(1536) by " + (8192 * k + 1536), b.ram(1536), 61);
      Bench.due("ram(8191) by " + (8192 * k + 8191), b.ram(8191), 62);
    }
  }

  private static void addressesOfCodes() {
    Bench.part("Terms, 'addresses are taken modulo 8192': codes");
    for (int k = 0; k < 8; k++) {
      Board b = Bench.boardAt(8192 * k + Bench.START, 169, 70);
      Bench.due("accesses", Bench.trace(b, 2), "r1024 r1025");
      Bench.due("A", b.register(0), 70);
      Bench.due("P has 16 bits", b.register(5), 8192 * k + Bench.START + 2);
      Board end = Bench.boardAt(8192 * k + 8191);
      end.burn(2, 1023, 169);
      end.poke(0, 71);
      Bench.due("over the end", Bench.trace(end, 2), "r8191 r0");
      Bench.due("A over the end", end.register(0), 71);
      Bench.due("P over the end", end.register(5), (8192 * k + 8193) % 65536);
    }
  }

  private static void addressesOfPortAndRegisters() {
    Bench.part("Terms, 'addresses are taken modulo 8192': port and registers");
    for (int k = 0; k < 8; k++) {
      Board b = new Board();
      Bench.write(b, 8192 * k + 6658, 5);
      Bench.due("GROUND", b.look(6658), 5);
      Bench.due("GROUND read", Bench.read(b, 8192 * k + 6658), 5);
      Bench.write(b, 8192 * k + 1, 4 + k % 4);
      Bench.due("the port", b.register(6), 4 + k % 4);
      Bench.due("the port read", Bench.read(b, 8192 * k + 1), 4 + k % 4);
    }
  }

  private static void wordsOfStartAndInterrupt() {
    Bench.part("Terms, 'a WORD at an address has its low byte there and its high byte at the next one'");
    Board b = new Board();
    int[] bytes = {10, 20, 30, 40};
    for (int i = 0; i < 4; i++) {
      b.burn(2, 1020 + i, bytes[i]);
    }
    b.power();
    Bench.due("the word at 8188", b.register(5), 20 * 256 + 10);
    Board asked = new Board();
    Bench.write(asked, Bench.PICTURE + 5, 1);
    Bench.restart(asked, Bench.START, 88);
    asked.burn(2, 1022, 30);
    asked.burn(2, 1023, 40);
    asked.run(9);
    Bench.due("the word at 8190", asked.register(5), 40 * 256 + 30);
  }

  private static void wordsOfInstructions() {
    Bench.part("Terms, 'a WORD .. low byte there .. high byte at the next one': in instructions");
    Board b = Bench.board(173, 3, 6, 76, 7, 8);
    Bench.due("LDA and JUMP", Bench.trace(b, 8), "r1024 r1025 r1026 r1539 r1027 r1028 r1029 r2055");
    Board over = Bench.boardAt(1023, 76, 7, 8);
    over.run(3);
    Bench.due("a word over 1023", over.register(5), 2055);
  }

  /** Addresses that differ in one bit must not be one byte. */
  private static void ramBytesAreApart() {
    Bench.part("Terms, MEMORY: '8192 bytes of RAM'");
    Board b = new Board();
    b.poke(0, 99);
    b.poke(8191, 98);
    for (int bit = 0; bit < 13; bit++) {
      b.poke(1 << bit, 1 + bit);
      b.poke(8191 ^ 1 << bit, 101 + bit);
    }
    for (int bit = 0; bit < 13; bit++) {
      Bench.due("ram(" + (1 << bit) + ")", b.ram(1 << bit), 1 + bit);
      Bench.due("ram(" + (8191 ^ 1 << bit) + ")", b.ram(8191 ^ 1 << bit), 101 + bit);
    }
    Bench.due("ram(0)", b.ram(0), 99);
    Bench.due("ram(8191)", b.ram(8191), 98);
  }

  private static void romBytesAreApart() {
    Bench.part("Terms, MEMORY: 'A of 1024, C (characters) of 512, K of 1024 bytes'");
    int[] firsts = {5120, 6656, 7168};
    int[] bits = {10, 9, 10};
    Board b = new Board();
    Bench.write(b, 1, 3);
    for (int rom = 0; rom < 3; rom++) {
      for (int bit = 0; bit < bits[rom]; bit++) {
        Bench.due("burn", b.burn(rom, 1 << bit, 50 * rom + bit + 1), true);
      }
      Bench.due("burn of the last", b.burn(rom, (1 << bits[rom]) - 1, 50 * rom + 40), true);
      Bench.due("burn behind the last", b.burn(rom, 1 << bits[rom], 1), false);
    }
    for (int rom = 0; rom < 3; rom++) {
      for (int bit = 0; bit < bits[rom]; bit++) {
        Bench.due("byte " + (1 << bit) + " of " + rom, b.look(firsts[rom] + (1 << bit)), 50 * rom + bit + 1);
      }
      Bench.due("last byte of " + rom, b.look(firsts[rom] + (1 << bits[rom]) - 1), 50 * rom + 40);
      Bench.due("first byte of " + rom, b.look(firsts[rom]), 0);
    }
  }

  private static void romsAreNothingAtFirst() {
    Bench.part("Terms, MEMORY: 'all 0 at first'");
    Board b = new Board();
    for (int i = 0; i < 1024; i++) {
      Bench.due("ROM A, " + i, b.look(5120 + i), 0);
      Bench.due("ROM K, " + i, b.look(7168 + i), 0);
    }
    Bench.write(b, 1, 3);
    for (int i = 0; i < 512; i++) {
      Bench.due("ROM C, " + i, b.look(6656 + i), 0);
    }
  }

  private static void portAtFirst() {
    Bench.part("Terms, MEMORY: 'The PORT (7 at first)'");
    Board b = new Board();
    Bench.due("the port", b.register(6), 7);
    b.burn(0, 0, 10);
    b.burn(2, 0, 11);
    Bench.due("L and H set: ROM A", b.look(5120), 10);
    Bench.due("H set: ROM K", b.look(7168), 11);
    Bench.due("E set: registers", b.look(Bench.INTERFACE + 4), 255);
  }

  private static void portIsRead() {
    Bench.part("Terms, MEMORY, READING: '1: the port'");
    for (int port = 0; port < 8; port++) {
      Board b = new Board();
      b.poke(1, 99);
      Bench.write(b, 1, port);
      Bench.due("look(1)", b.look(1), port);
      Bench.due("read", Bench.read(b, 1), port);
      Bench.due("register(6)", b.register(6), port);
      b.poke(0, 98);
      b.poke(2, 97);
      Bench.due("look(0)", b.look(0), 98);
      Bench.due("look(2)", b.look(2), 97);
    }
  }

  private static int ramMark(int at) {
    return 2 + (at * 31 + at / 64) % 120;
  }

  private static int romMark(int at) {
    return 128 + (at * 29 + at / 64) % 120;
  }

  /** What the registers hold in line 0 when nothing but the port was written: none of the marks. */
  private static int registerMark(int place) {
    int which = place % 16;
    if (place < 64) {
      return which == 4 ? 1 : 0;
    }
    boolean isFull = which == 1 || (which >= 4 && which <= 7);
    return place < 128 && isFull ? 255 : 0;
  }

  private static String sentenceOf(int at) {
    if (at == 1) {
      return "'1: the port'";
    }
    if (at >= 5120 && at <= 6143) {
      return "'5120 .. 6143: ROM A, if L and H are set'";
    }
    if (at >= 7168) {
      return "'7168 .. 8191: ROM K, if H is set'";
    }
    return at >= 6656 ? "'6656 .. 7167: if L or H is set, the REGISTERS if E is set, else ROM C'" : "'All else: RAM'";
  }

  private static int shown(int port, int at) {
    boolean low = port % 2 == 1;
    boolean high = port / 2 % 2 == 1;
    boolean registers = port >= 4;
    if (at == 1) {
      return port;
    }
    if (at >= 5120 && at <= 6143) {
      return low && high ? romMark(at) : ramMark(at);
    }
    if (at >= 7168) {
      return high ? romMark(at) : ramMark(at);
    }
    if (at >= 6656 && (low || high)) {
      return registers ? registerMark(at - 6656) : romMark(at);
    }
    return ramMark(at);
  }

  private static void mark(Board b, int at) {
    b.poke(at, ramMark(at));
    b.burn(0, at - 5120, romMark(at));
    b.burn(1, at - 6656, romMark(at));
    b.burn(2, at - 7168, romMark(at));
  }

  private static void wholeMap(int port) {
    for (int first = 0; first < 8192; first += SLICE) {
      Board b = new Board();
      Bench.write(b, 1, port);
      for (int at = first; at < first + SLICE; at++) {
        mark(b, at);
      }
      for (int at = first; at < first + SLICE; at++) {
        Bench.part("Terms, MEMORY, READING: " + sentenceOf(at));
        Bench.due("port " + port + ", look(" + at + ")", b.look(at), shown(port, at));
      }
    }
  }

  private static void programReads(int port) {
    Board b = new Board();
    Bench.write(b, 1, port);
    for (int at : EDGES) {
      mark(b, at);
      Bench.part("Terms, MEMORY, READING: " + sentenceOf(at));
      Bench.due("port " + port + ", read at " + at, Bench.read(b, at), shown(port, at));
    }
  }

  /** The value that a write leaves in RAM, in ROM and in the map is told apart at each edge. */
  private static void programWrites(int port) {
    for (int at : EDGES) {
      boolean toRegisters = at >= 6656 && at <= 7167 && port % 4 != 0 && port >= 4;
      Bench.part(toRegisters
          ? "Terms, MEMORY, WRITING: '6656 .. 7167, if L or H is set and E is: the registers'"
          : "Terms, MEMORY, WRITING: 'All else: RAM'");
      Board b = new Board();
      Bench.write(b, 1, port);
      mark(b, at);
      int before = b.look(at);
      Bench.write(b, at, 124);
      String name = "port " + port + ", behind a write at " + at;
      Bench.due(name + ": ram", b.ram(at), toRegisters ? ramMark(at) : 124);
      boolean showsRam = before == ramMark(at) && !toRegisters;
      int want = showsRam ? 124 : at == 6656 && toRegisters ? 124 & 23 : before;
      Bench.due(name + ": look", b.look(at), want);
      Bench.due(name + ": the port", b.register(6), port);
    }
  }

  private static void portKeepsThreeBits() {
    Bench.part("Terms, MEMORY, WRITING: '1: the port becomes the byte's lowest three bits'");
    for (int from = 0; from < 256; from += 32) {
      Board b = new Board();
      for (int value = from; value < from + 32; value++) {
        Bench.write(b, 1, value);
        Bench.due("the port behind " + value, b.register(6), value % 8);
      }
    }
  }

  private static void portIsNoRam() {
    Bench.part("Terms, MEMORY, WRITING: '1: the port', and not RAM");
    Board b = new Board();
    b.poke(1, 77);
    Bench.write(b, 1, 253);
    Bench.due("ram(1)", b.ram(1), 77);
    Bench.write(b, 2, 3);
    Bench.write(b, 0, 2);
    Bench.due("the port behind writes at 0 and 2", b.register(6), 5);
    Bench.due("ram(0)", b.ram(0), 2);
    Bench.due("ram(2)", b.ram(2), 3);
  }

  private static void picturePlaces() {
    Bench.part("Terms, REGISTERS: '0 .. 63 picture register o mod 16'");
    Board b = new Board();
    for (int i = 0; i < 4; i++) {
      Bench.write(b, 6656 + 16 * i, 16 + i);
      Bench.write(b, 6656 + 16 * i + 6, 3 + i);
      for (int j = 0; j < 4; j++) {
        Bench.due("CONTROL at " + 16 * j, b.look(6656 + 16 * j), 16 + i);
        Bench.due("BASE at " + (16 * j + 6), b.look(6656 + 16 * j + 6), 3 + i);
        Bench.due("nothing at " + (16 * j + 15), b.look(6656 + 16 * j + 15), 0);
      }
    }
    Bench.due("place 64 is no CONTROL", b.look(6656 + 64), 0);
  }

  private static void interfacePlaces() {
    Bench.part("Terms, REGISTERS: '64 .. 127 interface register o mod 16'");
    Board b = new Board();
    for (int i = 4; i < 8; i++) {
      Bench.write(b, 6656 + 16 * i, 70 + i);
      Bench.write(b, 6656 + 16 * i + 15, i % 2 == 0 ? 64 : 8);
      for (int j = 4; j < 8; j++) {
        Bench.due("ROWS at " + 16 * j, b.look(6656 + 16 * j), 70 + i);
        Bench.due("CONTROL of B at " + (16 * j + 15), b.look(6656 + 16 * j + 15), i % 2 == 0 ? 64 : 8);
      }
    }
    Bench.due("place 63 is no CONTROL of B", b.look(6656 + 63), 0);
    Bench.due("place 0 is no ROWS", b.look(6656), 0);
    Bench.due("place 128 is no ROWS", b.look(6656 + 128), 0);
  }

  private static void colourPlaces() {
    Bench.part("Terms, REGISTERS: '128 .. 151 the COLOUR of cell o - 128'");
    Board b = new Board();
    int[] bytes = new int[26];
    for (int i = 0; i < 26; i++) {
      bytes[i] = 1 + i % 15;
    }
    Bench.writeAll(b, 6656 + 127, bytes);
    for (int i = 1; i <= 24; i++) {
      Bench.due("place " + (127 + i), b.look(6656 + 127 + i), bytes[i]);
      Bench.due("place " + (127 + i) + " read", Bench.read(b, 6656 + 127 + i), bytes[i]);
    }
    Bench.due("place 152, behind the last cell", b.look(6656 + 152), 0);
  }

  private static void coloursAreFourBits() {
    Bench.part("Terms, REGISTERS: 'its lowest four bits (others are 0)'");
    for (int cell : new int[] {0, 23}) {
      Board b = new Board();
      for (int value : new int[] {0, 15, 16, 31, 240, 255, 128, 90}) {
        Bench.write(b, Bench.COLOURS + cell, value);
        Bench.due("cell " + cell + " behind " + value, b.look(Bench.COLOURS + cell), value % 16);
      }
    }
  }

  private static void otherPlacesRead() {
    Bench.part("Terms, REGISTERS: 'All else reads 0'");
    Board b = new Board();
    for (int place = 152; place < 512; place++) {
      b.poke(6656 + place, 44);
      Bench.due("place " + place, b.look(6656 + place), 0);
    }
    Bench.due("place 152 read", Bench.read(b, 6656 + 152), 0);
    Bench.due("place 511 read", Bench.read(b, 6656 + 511), 0);
  }

  private static void otherPlacesWritten() {
    Bench.part("Terms, REGISTERS: 'and writing does nothing'");
    Board b = new Board();
    Bench.writeAll(b, Bench.PICTURE, 7, 40, 5, 6, 1, 0, 9);
    Bench.writeAll(b, Bench.INTERFACE, 33, 0, 0, 0, 34, 35, 36, 37);
    Bench.writeAll(b, Bench.COLOURS, 1, 2, 3, 4, 5, 6, 7, 8, 9);
    int[] before = new int[512];
    for (int place = 0; place < 152; place++) {
      before[place] = b.look(6656 + place);
    }
    Bench.fill(b, 6656 + 152, 180, 255);
    Bench.fill(b, 6656 + 332, 180, 255);
    for (int place = 0; place < 512; place++) {
      boolean isLine = place < 64 && place % 16 == 1;
      if (!isLine) {
        Bench.due("place " + place, b.look(6656 + place), before[place]);
      }
      Bench.due("ram(" + (6656 + place) + ")", b.ram(6656 + place), 0);
    }
  }
}
