/** The map of memory at each port (promises 3, 7, 8), by look and by a program's own accesses. */
public final class MemoryMapTest {
  private static final int[] PLACES = {
    0, 2, 255, 256, 511, 5119, 5120, 5121, 6143, 6144, 6655, 6656, 6814, 7167, 7168, 8187, 8191
  };

  public static void main(String[] args) {
    for (int port = 0; port < 8; port++) {
      reads(port);
      writes(port);
    }
    portKeepsThreeBits();
    addressesWrap();
    mirrors();
    colours();
    lookClearsNothing();
    Bench.done();
  }

  private static Board marked(int port) {
    Board b = new Board();
    for (int i = 0; i < PLACES.length; i++) {
      b.poke(PLACES[i], 100 + i);
    }
    for (int at : PLACES) {
      b.burn(0, at - 5120, 1 + (at - 5120) % 50);
      b.burn(1, at - 6656, 200 + (at - 6656) % 50);
      b.burn(2, at - 7168, 51 + (at - 7168) % 49);
    }
    Bench.write(b, 1, port);
    return b;
  }

  private static int wanted(Board b, int port, int at) {
    boolean low = port % 2 == 1;
    boolean high = port / 2 % 2 == 1;
    boolean registers = port >= 4;
    if (at >= 5120 && at <= 6143 && low && high) {
      return 1 + (at - 5120) % 50;
    }
    if (at == 8191 && high) {
      return Bench.HANDLER >> 8;
    }
    if (at >= 7168 && high) {
      return 51 + (at - 7168) % 49;
    }
    if (at >= 6656 && at <= 7167 && (low || high)) {
      return registers ? 0 : 200 + (at - 6656) % 50;
    }
    return b.ram(at);
  }

  private static void reads(int port) {
    Board b = marked(port);
    Bench.due("port", b.register(6), port);
    Bench.due("look(1)", b.look(1), port);
    Bench.due("read 1", Bench.read(b, 1), port);
    for (int at : PLACES) {
      String name = "port " + port + ", address " + at;
      int want = wanted(b, port, at);
      Bench.due(name + ": look", b.look(at), want);
      Bench.due(name + ": read", Bench.read(b, at), want);
      Bench.due(name + ": read 24576 above", Bench.read(b, at + 24576), want);
    }
  }

  private static void writes(int port) {
    Board b = marked(port);
    int romA = b.look(5120);
    for (int at : PLACES) {
      boolean toRegisters = at >= 6656 && at <= 7167 && port % 4 != 0 && port >= 4;
      int before = b.ram(at);
      int value = before ^ 7;
      Bench.write(b, at, value);
      Bench.due("port " + port + ": ram behind a write at " + at, b.ram(at), toRegisters ? before : value);
    }
    if (port % 4 == 3) {
      Bench.due("ROM A behind a write", b.look(5120), romA);
    }
    if (port == 1) {
      Bench.due("RAM at 5120 shows", b.look(5120), b.ram(5120));
    }
  }

  private static void portKeepsThreeBits() {
    Board b = new Board();
    b.poke(1, 77);
    Bench.write(b, 1, 253);
    Bench.due("port behind 253", b.register(6), 5);
    Bench.due("RAM below the port", b.ram(1), 77);
    Bench.write(b, 1 + 8192 * 3, 250);
    Bench.due("port by a far address", b.register(6), 2);
    Bench.due("the access of it", b.access() < 8192, true);
  }

  private static void addressesWrap() {
    Board b = Bench.board(169, 9, 141, 5, 32 * 3 + 4, 173, 5, 224 + 4);
    b.run(6);
    Bench.due("ram(1029) by 24576 + 1029", b.ram(1029), 9);
    Bench.due("access", b.access(), 1029 + 8192);
    b.run(2);
    Board c = Bench.boardAt(8191, 234);
    c.burn(2, 1023, 169);
    c.poke(0, 55);
    c.power();
    c.run(2);
    Bench.due("LDA over the end", c.register(0), 55);
    Bench.due("P over the end", c.register(5), 8193);
  }

  private static void mirrors() {
    Board b = new Board();
    for (int i = 0; i < 4; i++) {
      Bench.write(b, 6656 + 16 * i + 2, 3 + i);
      Bench.write(b, 6720 + 16 * i, 77 + i);
      for (int j = 0; j < 4; j++) {
        Bench.due("GROUND at mirror " + j, b.look(6656 + 16 * j + 2), 3 + i);
        Bench.due("ROWS at mirror " + j, b.look(6720 + 16 * j), 77 + i);
      }
    }
    Bench.write(b, 6735, 64);
    Bench.due("the last place of the picture chip", b.look(6656 + 63), 0);
    Bench.due("the last place of the interface chip", b.look(6656 + 127), 64);
    Bench.fill(b, 6656 + 152, 180, 255);
    Bench.fill(b, 6656 + 332, 180, 255);
    for (int place = 152; place < 512; place++) {
      Bench.due("place " + place, b.look(6656 + place), 0);
    }
    Bench.due("GROUND behind writes elsewhere", b.look(6658), 6);
    Bench.due("cell 23 behind writes elsewhere", b.look(6784 + 23), 0);
  }

  private static void colours() {
    Board b = new Board();
    int[] bytes = new int[24];
    for (int i = 0; i < 24; i++) {
      bytes[i] = 240 + (i * 5 + 3) % 16;
    }
    Bench.writeAll(b, 6784, bytes);
    for (int i = 0; i < 24; i++) {
      Bench.due("colour " + i, b.look(6784 + i), (i * 5 + 3) % 16);
      Bench.due("colour " + i + " read", Bench.read(b, 6784 + i), (i * 5 + 3) % 16);
    }
    Bench.due("behind the colours", b.look(6808), 0);
  }

  private static void lookClearsNothing() {
    Board b = new Board();
    Bench.write(b, 6724, 0);
    Bench.write(b, 6725, 0);
    Bench.write(b, 6734, 9);
    Bench.due("flag A", b.look(6733), 1);
    Bench.due("flag A again", b.look(6733), 1);
    Bench.due("at the mirror", b.look(6733 + 32), 1);
    b.power();
    Bench.due("behind power()", b.look(6733), 1);
    Bench.due("read by the processor", Bench.read(b, 6733), 1);
    Bench.due("behind that", b.look(6733), 0);
  }
}
