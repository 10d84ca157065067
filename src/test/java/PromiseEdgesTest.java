/** The boundary cases that promises 1 to 16 name, each sentence with a test of its own. */
public final class PromiseEdgesTest {
  private static final int MIN = Integer.MIN_VALUE;
  private static final int MAX = Integer.MAX_VALUE;
  private static final int[] NO_BYTES = {-1, 256, 257, 512, -255, -256, 65536, MIN, MAX};
  private static final int[] NO_ADDRESSES = {-1, -2, 8192, 8193, 16384, -8192, 65536, MIN, MAX};
  private static final int[] ROM_SIZES = {1024, 512, 1024};
  private static final int CONTROL = Bench.PICTURE;
  private static final int FLAGS = Bench.INTERFACE + 13;

  public static void main(String[] args) {
    none();
    newObjectIsAllAtFirst();
    newObjectHasNoPoint();
    newObjectHasNoByteSet();
    newObjectHasItsRegistersAtFirst();
    newObjectSharesNothing();
    newObjectHasNoP();
    newObjectIsJammed();
    processorAtFirst();
    burnSetsFirstAndLast();
    burnOfNoSuchRom();
    burnOfNoSuchByte();
    burnOfNoByte();
    burnRefusedSetsNothing();
    pokeSetsFirstAndLast();
    pokeIsOfRamAlone();
    pokeOfNoAddress();
    pokeOfNoByte();
    pokeRefusedSetsNothing();
    powerMakesTheProcessorNew();
    powerEndsWhatHadBegun();
    powerReadsTheMapOfNow();
    powerReadsAWholeWord();
    powerMakesNoAccess();
    powerClearsNothing();
    powerLeavesAllElse();
    powerLeavesAFetchAlone();
    pressSetsFirstAndLast();
    pressSetsAnew();
    pressOfNoRow();
    pressOfNoByte();
    pressRefusedSetsNothing();
    runOfFewestAndMost();
    runRefused();
    runCountsAccesses();
    ramFirstAndLast();
    ramOfNoAddress();
    lookFirstAndLast();
    lookOfNoAddress();
    lookClearsNothing();
    lookIsOfNow();
    registersByNumber();
    registerOfNoSuch();
    jammedOrNot();
    beamWraps();
    pointsOfTheCorners();
    pointIsNothingAtFirst();
    pointOfNoSuch();
    pointKeepsWhatItGotLast();
    accessOfFirstAndLast();
    accessModulo();
    accessOfNone();
    accessStaysWhileNoneIsMade();
    cyclesInAll();
    cyclesUpToTheLastCall();
    stolenSincePower();
    stolenIsOfReadsAlone();
    interruptsSincePower();
    interruptsWhenTheyBegin();
    Bench.done();
  }

  private static void none() {
    Bench.part("Terms, the constants");
    Bench.due("NONE", HomeBoard.NONE, -1);
  }

  private static void newObjectIsAllAtFirst() {
    Bench.part("promise 1, 'All at first'");
    Board b = new Board();
    Bench.due("state", Bench.state(b), "A0 X0 Y0 S255 F4 P0");
    Bench.due("port", b.register(6), 7);
    Bench.due("beam", b.beam(), 0);
    Bench.due("access", b.access(), -1);
    Bench.due("cycles", b.cycles(), 0);
    Bench.due("stolen", b.stolen(), 0);
    Bench.due("interrupts", b.interrupts(), 0);
  }

  private static void newObjectHasNoPoint() {
    Bench.part("promise 1, 'All at first': points");
    Board b = new Board();
    for (int line = 0; line < 40; line++) {
      for (int x = 0; x < 64; x++) {
        Bench.due("point(" + line + ", " + x + ")", b.point(line, x), 0);
      }
    }
  }

  private static void newObjectHasNoByteSet() {
    Bench.part("promise 1, 'All at first': RAM and ROMs");
    Board b = new Board();
    for (int at = 0; at < 8192; at++) {
      Bench.due("ram(" + at + ")", b.ram(at), 0);
      boolean isRegister = at == 1 || (at >= 6656 && at <= 7167);
      if (!isRegister) {
        Bench.due("look(" + at + ")", b.look(at), 0);
      }
    }
    Bench.write(b, 1, 3);
    for (int at = 6656; at <= 7167; at++) {
      Bench.due("look(" + at + ") at ROM C", b.look(at), 0);
    }
  }

  private static void newObjectHasItsRegistersAtFirst() {
    Bench.part("promise 1, 'All at first': registers");
    Board b = new Board();
    Bench.due("look(1)", b.look(1), 7);
    for (int place = 0; place < 512; place++) {
      int which = place % 16;
      boolean ofInterface = place >= 64 && place < 128;
      boolean isFull = which == 1 || (which >= 4 && which <= 7);
      Bench.due("place " + place, b.look(6656 + place), ofInterface && isFull ? 255 : 0);
    }
  }

  private static void newObjectSharesNothing() {
    Bench.part("promise 1, 'All at first', beside an object in use");
    Board used = Bench.board(169, 2, 133, 1, 88, 72);
    used.burn(0, 0, 9);
    used.press(0, 9);
    used.run(500);
    Board b = new Board();
    Bench.due("state", Bench.state(b), "A0 X0 Y0 S255 F4 P0");
    Bench.due("port", b.register(6), 7);
    Bench.due("RAM", b.ram(Bench.START), 0);
    Bench.due("ROM A", b.look(5120), 0);
    Bench.due("ROM K", b.look(8189), 0);
    Bench.due("keys", b.look(Bench.INTERFACE + 1), 255);
    Bench.due("flag", b.look(Bench.PICTURE + 4), 0);
    Bench.due("beam", b.beam(), 0);
    Bench.due("cycles", b.cycles(), 0);
  }

  private static void newObjectHasNoP() {
    Bench.part("promise 1, 'P is 0 until power() is called'");
    Board b = new Board();
    b.burn(2, 1020, 52);
    b.burn(2, 1021, 18);
    Bench.due("P", b.register(5), 0);
    b.run(1000);
    Bench.due("P behind 1000 cycles", b.register(5), 0);
    b.power();
    Bench.due("P behind power()", b.register(5), 18 * 256 + 52);
  }

  private static void newObjectIsJammed() {
    Bench.part("promise 1, 'the processor is jammed'");
    Board b = new Board();
    b.poke(0, 234);
    Bench.due("jammed()", b.jammed(), true);
    Bench.due("run(1000)", b.run(1000), 0);
    Bench.due("jammed() still", b.jammed(), true);
    Bench.due("access()", b.access(), -1);
    Bench.due("stolen()", b.stolen(), 0);
    Bench.due("the beam goes on", b.beam(), 40);
    Bench.due("and sets the flag of line 0", b.look(Bench.PICTURE + 4), 1);
  }

  private static void processorAtFirst() {
    Bench.part("Terms, THE PROCESSOR: 'S 255 at first, the others 0 .. I alone set at first .. P .. the word at 8188'");
    Board b = new Board();
    b.burn(2, 1020, 255);
    b.burn(2, 1021, 1);
    b.power();
    int[] want = {0, 0, 0, 255, 4, 511};
    for (int which = 0; which < 6; which++) {
      Bench.due("register(" + which + ")", b.register(which), want[which]);
    }
    b.run(1);
    Bench.due("its first access", b.access(), 511);
  }

  private static void burnSetsFirstAndLast() {
    Bench.part("promise 2, 'Sets a byte of ROM A (rom 0), C (1) or K (2): true'");
    Board b = new Board();
    for (int rom = 0; rom < 3; rom++) {
      Bench.due("first of " + rom, b.burn(rom, 0, 10 + rom), true);
      Bench.due("last of " + rom, b.burn(rom, ROM_SIZES[rom] - 1, 20 + rom), true);
      Bench.due("0 into " + rom, b.burn(rom, 5, 0), true);
      Bench.due("255 into " + rom, b.burn(rom, 6, 255), true);
    }
    Bench.due("A's first", b.look(5120), 10);
    Bench.due("A's last", b.look(6143), 20);
    Bench.due("A's 255", b.look(5126), 255);
    Bench.due("K's first", b.look(7168), 12);
    Bench.due("K's last", b.look(8191), 22);
    Bench.due("K's 255", b.look(7174), 255);
    Bench.write(b, 1, 3);
    Bench.due("C's first", b.look(6656), 11);
    Bench.due("C's last", b.look(7167), 21);
    Bench.due("C's 255", b.look(6662), 255);
    Bench.due("no RAM below A", b.ram(5120), 0);
    Bench.due("no RAM below K", b.ram(7168), 0);
    Bench.due("no RAM below C", b.ram(6656), 0);
    b.burn(0, 6, 0);
    Bench.due("A's byte set anew", b.look(5126), 0);
  }

  private static void burnOfNoSuchRom() {
    Bench.part("promise 2, 'False when there is no such byte': no such ROM");
    Board b = new Board();
    for (int rom : new int[] {-1, -2, 3, 4, 256, MIN, MAX}) {
      Bench.due("burn(" + rom + ", 0, 0)", b.burn(rom, 0, 0), false);
      Bench.due("burn(" + rom + ", 511, 1)", b.burn(rom, 511, 1), false);
    }
  }

  private static void burnOfNoSuchByte() {
    Bench.part("promise 2, 'False when there is no such byte'");
    Board b = new Board();
    for (int rom = 0; rom < 3; rom++) {
      int size = ROM_SIZES[rom];
      for (int at : new int[] {-1, size, size + 1, 1024, -size, 2 * size, 5120, 6656, 7168, MIN, MAX}) {
        Bench.due("burn(" + rom + ", " + at + ", 1)", b.burn(rom, at, 1), false);
      }
    }
    Bench.due("burn(1, 1023, 1), of the shorter ROM", b.burn(1, 1023, 1), false);
  }

  private static void burnOfNoByte() {
    Bench.part("promise 2, 'False when .. value is no byte'");
    Board b = new Board();
    for (int rom = 0; rom < 3; rom++) {
      for (int value : NO_BYTES) {
        Bench.due("burn(" + rom + ", 0, " + value + ")", b.burn(rom, 0, value), false);
        Bench.due("burn(" + rom + ", -1, " + value + ")", b.burn(rom, -1, value), false);
      }
    }
  }

  private static void burnRefusedSetsNothing() {
    Bench.part("promise 2, a refused burn sets nothing");
    Board b = new Board();
    Bench.write(b, 1, 3);
    int[] firsts = {5120, 6656, 7168};
    for (int rom = 0; rom < 3; rom++) {
      b.burn(rom, 0, 77);
      b.burn(rom, -1, 1);
      b.burn(rom, ROM_SIZES[rom], 1);
      b.burn(3, 0, 1);
      b.burn(-1, 0, 1);
      for (int value : NO_BYTES) {
        b.burn(rom, 0, value);
      }
      Bench.due("first of " + rom, b.look(firsts[rom]), 77);
      Bench.due("second of " + rom, b.look(firsts[rom] + 1), 0);
      int last = rom == 2 ? Bench.HANDLER >> 8 : 0;
      Bench.due("last of " + rom, b.look(firsts[rom] + ROM_SIZES[rom] - 1), last);
    }
    Bench.due("ram(0)", b.ram(0), 0);
  }

  private static void pokeSetsFirstAndLast() {
    Bench.part("promise 3, 'Sets a byte of RAM: true'");
    Board b = new Board();
    Bench.due("poke(0, 255)", b.poke(0, 255), true);
    Bench.due("poke(8191, 7)", b.poke(8191, 7), true);
    Bench.due("poke(4096, 1)", b.poke(4096, 1), true);
    Bench.due("ram(0)", b.ram(0), 255);
    Bench.due("ram(8191)", b.ram(8191), 7);
    Bench.due("ram(4096)", b.ram(4096), 1);
    Bench.due("poke(0, 0)", b.poke(0, 0), true);
    Bench.due("ram(0) set anew", b.ram(0), 0);
  }

  private static void pokeIsOfRamAlone() {
    Bench.part("promise 3, 'Sets a byte of RAM', wherever the map shows other things");
    Board b = new Board();
    for (int at : new int[] {1, 5120, 6143, 6656, 6658, 6720, 6784, 7167, 7168, 8191}) {
      int before = b.look(at);
      Bench.due("poke(" + at + ", 200)", b.poke(at, 200), true);
      Bench.due("ram(" + at + ")", b.ram(at), 200);
      Bench.due("look(" + at + ")", b.look(at), before);
    }
    Bench.due("the port", b.register(6), 7);
  }

  private static void pokeOfNoAddress() {
    Bench.part("promise 3, 'False when at is not 0 .. 8191'");
    Board b = new Board();
    for (int at : NO_ADDRESSES) {
      Bench.due("poke(" + at + ", 7)", b.poke(at, 7), false);
    }
  }

  private static void pokeOfNoByte() {
    Bench.part("promise 3, 'False when .. value is no byte'");
    Board b = new Board();
    for (int value : NO_BYTES) {
      Bench.due("poke(2, " + value + ")", b.poke(2, value), false);
      Bench.due("poke(-1, " + value + ")", b.poke(-1, value), false);
    }
  }

  private static void pokeRefusedSetsNothing() {
    Bench.part("promise 3, a refused poke sets nothing");
    Board b = new Board();
    b.poke(0, 11);
    b.poke(8191, 12);
    for (int at : NO_ADDRESSES) {
      b.poke(at, 7);
    }
    for (int value : NO_BYTES) {
      b.poke(0, value);
      b.poke(8191, value);
    }
    Bench.due("ram(0)", b.ram(0), 11);
    Bench.due("ram(1)", b.ram(1), 0);
    Bench.due("ram(8190)", b.ram(8190), 0);
    Bench.due("ram(8191)", b.ram(8191), 12);
  }

  private static void powerMakesTheProcessorNew() {
    Bench.part("promise 4, 'The processor is as at first'");
    Board b = Bench.board(169, 200, 162, 201, 160, 202, 56, 248, 88, 72, 2);
    b.run(16);
    Bench.due("before", Bench.state(b), "A200 X201 Y202 S254 F137 P1035");
    Bench.due("jammed before", b.jammed(), true);
    b.power();
    Bench.due("behind", Bench.state(b), "A0 X0 Y0 S255 F4 P1024");
    Bench.due("jammed behind", b.jammed(), false);
    b.power();
    Bench.due("behind a second one", Bench.state(b), "A0 X0 Y0 S255 F4 P1024");
    Board overflow = Bench.board(169, 64, 105, 64, 2);
    overflow.run(4);
    Bench.due("V before", overflow.register(4), 196);
    overflow.power();
    Bench.due("V behind", overflow.register(4), 4);
  }

  private static void powerEndsWhatHadBegun() {
    Bench.part("promise 4, 'The processor is as at first', in the middle of an instruction");
    int[][] programs = {
      {141, 0, 6}, {189, 255, 6}, {230, 200}, {208, 5}, {76, 0, 6}, {32, 0, 6}, {96}, {64}, {72}, {104}
    };
    int[] lengths = {4, 4, 5, 3, 3, 6, 6, 6, 3, 4};
    for (int i = 0; i < programs.length; i++) {
      for (int n = 1; n < lengths[i]; n++) {
        Board b = Bench.board(programs[i]);
        b.run(n);
        b.poke(Bench.START, 169);
        b.poke(Bench.START + 1, 5);
        b.power();
        Bench.due("code " + programs[i][0] + " cut off behind " + n, Bench.trace(b, 3), "r1024 r1025 r1026");
        Bench.due("A behind " + programs[i][0], b.register(0), 5);
      }
    }
    Board interrupted = asked(88, 234);
    interrupted.run(5);
    interrupted.power();
    Bench.due("an interrupt cut off", Bench.trace(interrupted, 3), "r1024 r1025 r1025");
  }

  private static void powerReadsTheMapOfNow() {
    Bench.part("promise 4, 'P the word at 8188 as the map is now'");
    for (int port = 0; port < 8; port++) {
      Board b = new Board();
      Bench.write(b, 1, port);
      b.poke(8188, 17);
      b.poke(8189, 3);
      b.burn(2, 1020, 18);
      b.burn(2, 1021, 4);
      b.power();
      boolean fromRom = (port & 2) != 0;
      Bench.due("P at port " + port, b.register(5), fromRom ? 4 * 256 + 18 : 3 * 256 + 17);
      Bench.due("the port stays", b.register(6), port);
    }
  }

  private static void powerReadsAWholeWord() {
    Bench.part("promise 4, 'P the word at 8188': of 16 bits");
    int[][] words = {{0, 0}, {255, 0}, {0, 255}, {255, 255}, {52, 254}, {0, 32}};
    for (int[] word : words) {
      Board b = new Board();
      b.burn(2, 1020, word[0]);
      b.burn(2, 1021, word[1]);
      b.burn(2, 1019, 99);
      b.burn(2, 1022, 99);
      b.power();
      Bench.due("P", b.register(5), word[0] + 256 * word[1]);
    }
  }

  private static void powerMakesNoAccess() {
    Bench.part("promise 4, 'these reads are no accesses'");
    Board b = Bench.board(76, 0, 4);
    b.run(3);
    Bench.due("access() before", b.access(), 1026);
    b.power();
    Bench.due("access()", b.access(), -1);
    Bench.due("cycles()", b.cycles(), 3);
    Bench.due("run(3)", b.run(3), 3);
  }

  /** Interrupts asked for by the picture chip and by both timers stand. */
  private static void powerClearsNothing() {
    Bench.part("promise 4, 'and clear nothing'");
    Board b = new Board();
    Bench.write(b, Bench.PICTURE + 5, 1);
    Bench.writeAll(b, Bench.INTERFACE + 4, 0, 0, 0, 0);
    Bench.write(b, FLAGS, 131);
    Bench.writeAll(b, Bench.INTERFACE + 14, 9, 9);
    Bench.due("flags before", b.look(FLAGS), 131);
    b.power();
    Bench.due("the interface chip's flags", b.look(FLAGS), 131);
    Bench.due("the picture chip's flag", b.look(Bench.PICTURE + 4), 129);
  }

  private static void powerLeavesAllElse() {
    Bench.part("promise 4, 'all else stays, cycles and beam, too'");
    Board b = new Board();
    b.press(3, 9);
    Bench.writeAll(b, Bench.PICTURE, 22, 20, 11, 12, 0, 1, 13);
    Bench.writeAll(b, Bench.INTERFACE + 4, 50, 60, 70, 80);
    Bench.write(b, Bench.INTERFACE, 240);
    Bench.write(b, Bench.INTERFACE + 14, 8);
    Bench.write(b, Bench.INTERFACE + 15, 64);
    Bench.write(b, Bench.COLOURS, 6);
    b.poke(700, 44);
    b.burn(0, 0, 45);
    Bench.runTo(b, 39, 0);
    int cycles = b.cycles();
    b.power();
    int[] at = {
      6656, 6657, 6658, 6659, 6660, 6661, 6662, 6720, 6721, 6724, 6725, 6726, 6727, 6734, 6735, 6784, 700, 5120
    };
    int[] want = {22, 39, 11, 12, 129, 1, 13, 240, 246, 50, 60, 70, 80, 8, 64, 6, 44, 45};
    for (int i = 0; i < at.length; i++) {
      Bench.due("look(" + at[i] + ")", b.look(at[i]), want[i]);
    }
    Bench.due("beam()", b.beam(), 39 * 24);
    Bench.due("cycles()", b.cycles(), cycles);
    Bench.due("point(38, 63)", b.point(38, 63), 12);
    b.power();
    b.run(1);
    Bench.due("beam() goes on", b.beam(), 39 * 24 + 1);
    Bench.due("cycles() go on", b.cycles(), cycles + 1);
  }

  private static void powerLeavesAFetchAlone() {
    Bench.part("promise 4, 'all else stays': a bad line, too");
    Board b = new Board();
    Bench.write(b, CONTROL, 17);
    Bench.restart(b, Bench.START, 76, 0, 4);
    Bench.runTo(b, 9, 8);
    b.power();
    Bench.due("the bus is wanted up to cycle 13", Bench.trace(b, 7), "- - - - - - r1024");
    Bench.due("stolen()", b.stolen(), 6);
  }

  private static void pressSetsFirstAndLast() {
    Bench.part("promise 5, 'Sets the KEYS of row r (0 .. 7): true'");
    for (int r = 0; r < 8; r++) {
      Board b = new Board();
      Bench.due("press(" + r + ", 255)", b.press(r, 255), true);
      Bench.due("seen", b.look(Bench.INTERFACE + 1), 0);
      Bench.write(b, Bench.INTERFACE, 1 << r);
      Bench.due("not seen with the bit of row " + r + " set", b.look(Bench.INTERFACE + 1), 255);
      Bench.write(b, Bench.INTERFACE, 255 - (1 << r));
      Bench.due("seen with it alone clear", b.look(Bench.INTERFACE + 1), 0);
    }
  }

  private static void pressSetsAnew() {
    Bench.part("promise 5, 'Sets the KEYS': old ones are let go");
    Board b = new Board();
    b.press(0, 128);
    b.press(7, 1);
    Bench.due("two rows", b.look(Bench.INTERFACE + 1), 126);
    Bench.due("press(0, 64)", b.press(0, 64), true);
    Bench.due("row 0 anew", b.look(Bench.INTERFACE + 1), 190);
    Bench.due("press(7, 0)", b.press(7, 0), true);
    Bench.due("row 7 let go", b.look(Bench.INTERFACE + 1), 191);
  }

  private static void pressOfNoRow() {
    Bench.part("promise 5, 'false when there is none'");
    Board b = new Board();
    for (int r : new int[] {-1, -8, 8, 9, 16, 256, MIN, MAX}) {
      Bench.due("press(" + r + ", 1)", b.press(r, 1), false);
    }
  }

  private static void pressOfNoByte() {
    Bench.part("promise 5, 'false when .. keys is no byte'");
    Board b = new Board();
    for (int keys : NO_BYTES) {
      Bench.due("press(0, " + keys + ")", b.press(0, keys), false);
      Bench.due("press(7, " + keys + ")", b.press(7, keys), false);
      Bench.due("press(8, " + keys + ")", b.press(8, keys), false);
    }
  }

  private static void pressRefusedSetsNothing() {
    Bench.part("promise 5, a refused press sets nothing");
    Board b = new Board();
    b.press(0, 1);
    b.press(7, 2);
    for (int keys : NO_BYTES) {
      b.press(0, keys);
      b.press(7, keys);
    }
    b.press(8, 255);
    b.press(-1, 255);
    Bench.due("keys", b.look(Bench.INTERFACE + 1), 252);
  }

  private static void runOfFewestAndMost() {
    Bench.part("promise 6, 'n cycles' at 1 and 1000");
    Board b = Bench.board(76, 0, 4);
    Bench.due("run(1)", b.run(1), 1);
    Bench.due("cycles()", b.cycles(), 1);
    Bench.due("run(1000)", b.run(1000), 1000);
    Bench.due("cycles()", b.cycles(), 1001);
    Bench.due("run(999)", b.run(999), 999);
    Bench.due("cycles()", b.cycles(), 2000);
    Bench.due("beam()", b.beam(), 80);
  }

  private static void runRefused() {
    Bench.part("promise 6, 'NONE when n is not 1 .. 1000'");
    Board b = Bench.board(76, 0, 4);
    for (int n : new int[] {0, -1, -1000, 1001, 1002, 65537, MIN, MAX}) {
      Bench.due("run(" + n + ")", b.run(n), -1);
    }
    Bench.due("cycles()", b.cycles(), 0);
    Bench.due("beam()", b.beam(), 0);
    Bench.due("access()", b.access(), -1);
    Bench.due("P", b.register(5), 1024);
  }

  private static void runCountsAccesses() {
    Bench.part("promise 6, 'how many accesses the processor made in them'");
    Board b = Bench.board(133, 200, Bench.JAM);
    Bench.due("reads, a write, and the code that jams", b.run(10), 4);
    Bench.due("none behind it", b.run(1000), 0);
    Board on = new Board();
    Bench.write(on, CONTROL, 16);
    Bench.runTo(on, 0, 0);
    Bench.restart(on, Bench.START, 76, 0, 4);
    Bench.due("a frame with three bad lines", on.run(960), 960 - 33);
  }

  private static void ramFirstAndLast() {
    Bench.part("promise 7, 'The byte of RAM at an address'");
    Board b = new Board();
    int[] at = {0, 1, 5120, 6143, 6656, 7167, 7168, 8191};
    for (int i = 0; i < at.length; i++) {
      b.poke(at[i], 255 - i);
    }
    b.burn(0, 0, 1);
    b.burn(2, 0, 1);
    for (int i = 0; i < at.length; i++) {
      Bench.due("ram(" + at[i] + ")", b.ram(at[i]), 255 - i);
    }
  }

  private static void ramOfNoAddress() {
    Bench.part("promise 7, 'NONE when it is not 0 .. 8191'");
    Board b = new Board();
    for (int at : NO_ADDRESSES) {
      Bench.due("ram(" + at + ")", b.ram(at), -1);
    }
  }

  private static void lookFirstAndLast() {
    Bench.part("promise 8, 'What reading an address would give now'");
    Board b = new Board();
    b.poke(0, 5);
    b.burn(2, 1023, 6);
    Bench.due("look(0)", b.look(0), 5);
    Bench.due("look(1)", b.look(1), 7);
    Bench.due("look(8191)", b.look(8191), 6);
  }

  private static void lookOfNoAddress() {
    Bench.part("promise 8, 'NONE when it is not 0 .. 8191'");
    Board b = new Board();
    for (int at : NO_ADDRESSES) {
      Bench.due("look(" + at + ")", b.look(at), -1);
    }
  }

  private static void lookClearsNothing() {
    Bench.part("promise 8, 'but nothing is cleared by it'");
    Board b = new Board();
    Bench.writeAll(b, Bench.INTERFACE + 4, 0, 0, 0, 0);
    Bench.writeAll(b, Bench.INTERFACE + 14, 9, 9);
    Bench.write(b, FLAGS, 130);
    for (int i = 0; i < 4; i++) {
      Bench.due("look at the flags", b.look(FLAGS + 16 * i), 131);
      Bench.due("look at the picture chip's flag", b.look(Bench.PICTURE + 4), 1);
    }
    int access = b.access();
    b.look(0);
    Bench.due("and it is no access", b.access(), access);
    Bench.due("the processor reads them still", Bench.read(b, FLAGS), 131);
    Bench.due("which clears them", b.look(FLAGS), 0);
  }

  private static void lookIsOfNow() {
    Bench.part("promise 8, 'would give now'");
    Board b = new Board();
    Bench.write(b, Bench.INTERFACE + 14, 17);
    int count = b.look(Bench.INTERFACE + 4);
    b.run(3);
    Bench.due("the count", b.look(Bench.INTERFACE + 4), count - 3);
    Bench.runTo(b, 39, 23);
    Bench.due("the line", b.look(Bench.PICTURE + 1), 39);
    b.run(1);
    Bench.due("the line behind it", b.look(Bench.PICTURE + 1), 0);
    b.poke(7168, 9);
    Bench.write(b, 1, 5);
    Bench.due("RAM when the port hides ROM K", b.look(7168), 9);
  }

  private static void registersByNumber() {
    Bench.part("promise 9, 'A (0), X (1), Y (2), S (3), the flags (4), P (5), the port (6)'");
    Board b = Bench.board(169, 6, 133, 1, 169, 10, 162, 20, 160, 130, 72);
    b.run(14);
    int[] want = {10, 20, 130, 254, 132, 1035, 6};
    for (int which = 0; which < 7; which++) {
      Bench.due("register(" + which + ")", b.register(which), want[which]);
    }
  }

  private static void registerOfNoSuch() {
    Bench.part("promise 9, 'NONE for another one'");
    Board b = Bench.board(169, 6);
    for (int which : new int[] {-1, -2, 7, 8, 256, MIN, MAX}) {
      Bench.due("register(" + which + ")", b.register(which), -1);
    }
  }

  private static void jammedOrNot() {
    Bench.part("promise 10, 'Whether the processor is jammed'");
    Board b = Bench.board(234, Bench.JAM);
    Bench.due("behind power()", b.jammed(), false);
    b.run(2);
    Bench.due("before the code", b.jammed(), false);
    b.run(1);
    Bench.due("with the code's access", b.jammed(), true);
    b.run(1000);
    Bench.due("for good", b.jammed(), true);
    b.power();
    Bench.due("until power()", b.jammed(), false);
  }

  private static void beamWraps() {
    Bench.part("promise 11, 'The line times 24 plus the cycle'");
    int[] cycles = {1, 23, 24, 25, 47, 48, 935, 936, 959, 960, 961, 1919, 1920};
    for (int n : cycles) {
      Board b = new Board();
      Bench.runCycles(b, n);
      Bench.due("beam() behind " + n + " cycles", b.beam(), n % 960);
    }
  }

  private static void pointsOfTheCorners() {
    Bench.part("promise 12, 'point x (0 .. 63) of a line (0 .. 39)'");
    Board b = new Board();
    Bench.write(b, Bench.PICTURE + 3, 9);
    b.run(960);
    int[][] corners = {{0, 0}, {0, 63}, {39, 0}, {39, 63}};
    for (int[] corner : corners) {
      Bench.due("point(" + corner[0] + ", " + corner[1] + ")", b.point(corner[0], corner[1]), 9);
    }
  }

  private static void pointIsNothingAtFirst() {
    Bench.part("promise 12, '0 at first'");
    Board b = new Board();
    Bench.write(b, Bench.PICTURE + 3, 9);
    Bench.runTo(b, 20, 14);
    Bench.due("a line that was shown", b.point(20, 63), 9);
    Bench.due("a line that was not yet", b.point(21, 0), 0);
    Bench.due("the last line", b.point(39, 63), 0);
  }

  private static void pointOfNoSuch() {
    Bench.part("promise 12, 'NONE when there is no such point'");
    Board b = new Board();
    for (int line : new int[] {-1, -40, 40, 41, 64, 256, MIN, MAX}) {
      Bench.due("point(" + line + ", 0)", b.point(line, 0), -1);
      Bench.due("point(" + line + ", 63)", b.point(line, 63), -1);
    }
    for (int x : new int[] {-1, -64, 64, 65, 128, 256, MIN, MAX}) {
      Bench.due("point(0, " + x + ")", b.point(0, x), -1);
      Bench.due("point(39, " + x + ")", b.point(39, x), -1);
    }
    Bench.due("point(-1, 64)", b.point(-1, 64), -1);
  }

  private static void pointKeepsWhatItGotLast() {
    Bench.part("promise 12, 'The colour that point x of a line got last'");
    Board b = new Board();
    Bench.write(b, Bench.PICTURE + 3, 9);
    Bench.runTo(b, 5, 0);
    Bench.runTo(b, 4, 0);
    Bench.write(b, Bench.PICTURE + 3, 4);
    Bench.runTo(b, 5, 6);
    Bench.due("before it gets a new one", b.point(5, 0), 9);
    b.run(1);
    Bench.due("the new one", b.point(5, 0), 4);
    Bench.due("the next eight", b.point(5, 8), 9);
    Bench.due("the next line", b.point(6, 0), 9);
    Bench.due("the line before the write", b.point(3, 0), 9);
  }

  private static void accessOfFirstAndLast() {
    Bench.part("promise 13, 'The address .. of the latest access, 8192 more when it was a write'");
    Board b = Bench.board(165, 0, 133, 0, 173, 255, 31, 141, 255, 31);
    b.run(3);
    Bench.due("a read at 0", b.access(), 0);
    b.run(3);
    Bench.due("a write at 0", b.access(), 8192);
    b.run(4);
    Bench.due("a read at 8191", b.access(), 8191);
    b.run(4);
    Bench.due("a write at 8191", b.access(), 16383);
    b.run(1);
    Bench.due("a read again", b.access(), 1034);
  }

  private static void accessModulo() {
    Bench.part("promise 13, 'The address (modulo 8192)'");
    Board b = Bench.boardAt(Bench.START + 8192, 173, 0, 32, 141, 255, 255);
    b.run(1);
    Bench.due("a code at 9216", b.access(), 1024);
    b.run(3);
    Bench.due("a read at 8192", b.access(), 0);
    b.run(4);
    Bench.due("a write at 65535", b.access(), 8191 + 8192);
  }

  private static void accessOfNone() {
    Bench.part("promise 13, 'NONE when there was none since power()'");
    Board b = new Board();
    b.run(10);
    Bench.due("before power()", b.access(), -1);
    b.power();
    Bench.due("behind power()", b.access(), -1);
    b.run(1);
    Bench.due("behind the first one", b.access(), 0);
    b.power();
    Bench.due("behind a second power()", b.access(), -1);
    Board waiting = beforeBadLine(76, 0, 4);
    waiting.run(11);
    Bench.due("while the first one waits", waiting.access(), -1);
    waiting.run(1);
    Bench.due("when it has waited", waiting.access(), 1024);
  }

  private static void accessStaysWhileNoneIsMade() {
    Bench.part("promise 13, 'the latest access' while none is made");
    Board b = Bench.board(133, 200, Bench.JAM);
    b.run(4);
    Bench.due("the code that jams", b.access(), 1026);
    b.run(100);
    Bench.due("jammed", b.access(), 1026);
    b.ram(5);
    b.look(6);
    b.poke(7, 8);
    Bench.due("behind other calls", b.access(), 1026);
  }

  private static void cyclesInAll() {
    Bench.part("promise 14, 'How many cycles there were in all'");
    Board b = new Board();
    b.run(7);
    Bench.due("jammed", b.cycles(), 7);
    Bench.restart(b, Bench.START, 76, 0, 4);
    Bench.due("behind power()", b.cycles(), 7);
    b.run(1000);
    b.run(0);
    b.run(1001);
    Bench.due("refused runs count nothing", b.cycles(), 1007);
    Board waiting = beforeBadLine(76, 0, 4);
    int before = waiting.cycles();
    waiting.run(11);
    Bench.due("waiting", waiting.cycles() - before, 11);
  }

  /** The 512 calls that the document promises, as long as they can be. */
  private static void cyclesUpToTheLastCall() {
    Bench.part("promise 14, 'in all', up to the 512th call");
    HomeBoard b = new HomeBoard();
    for (int i = 0; i < 510; i++) {
      b.run(1000);
    }
    Bench.due("cycles()", b.cycles(), 510000);
    Bench.due("beam()", b.beam(), 510000 % 960);
  }

  private static void stolenSincePower() {
    Bench.part("promise 15, 'How many accesses waited, since power(), .. a cycle each'");
    Board b = beforeBadLine(76, 0, 4);
    Bench.due("none yet", b.stolen(), 0);
    for (int n = 1; n <= 11; n++) {
      b.run(1);
      Bench.due("behind " + n + " cycles", b.stolen(), n);
    }
    b.run(100);
    Bench.due("no more than 11 a line", b.stolen(), 11);
    Bench.runTo(b, 17, 7);
    Bench.due("the next bad line", b.stolen(), 15);
    b.power();
    Bench.due("behind power()", b.stolen(), 0);
    b.run(20);
    Bench.due("since power()", b.stolen(), 7);
  }

  private static void stolenIsOfReadsAlone() {
    Bench.part("promise 15, 'accesses waited': no writes, and none of a jammed one");
    Board writing = beforeBadLine(133, 200);
    Bench.runTo(writing, 16, 0);
    Bench.runTo(writing, 17, 1);
    writing.power();
    Bench.due("the write is made in cycle 3", Bench.trace(writing, 4), "r1024 r1025 w200 -");
    Bench.due("stolen()", writing.stolen(), 1);
    Board jammed = beforeBadLine(Bench.JAM);
    jammed.run(12);
    Bench.due("jammed behind 11", jammed.jammed(), true);
    jammed.run(960);
    Bench.due("none while it is jammed", jammed.stolen(), 11);
  }

  private static void interruptsSincePower() {
    Bench.part("promise 16, 'How many interrupts began since power()'");
    Board b = asked(88, 234);
    b.poke(Bench.HANDLER, 64);
    b.run(2);
    for (int n = 1; n <= 5; n++) {
      b.run(13);
      Bench.due("behind " + n, b.interrupts(), n);
    }
    b.power();
    Bench.due("behind power()", b.interrupts(), 0);
    b.run(3);
    Bench.due("since power()", b.interrupts(), 1);
  }

  private static void interruptsWhenTheyBegin() {
    Bench.part("promise 16, 'began': with the first of the seven accesses");
    Board b = asked(88, 234);
    b.run(2);
    Bench.due("before", b.interrupts(), 0);
    for (int n = 1; n <= 7; n++) {
      b.run(1);
      Bench.due("behind " + n + " accesses", b.interrupts(), 1);
    }
  }

  /** The flag of line 0 stands and is enabled; I is set. */
  private static Board asked(int... program) {
    Board b = new Board();
    Bench.write(b, Bench.PICTURE + 5, 1);
    Bench.restart(b, Bench.START, program);
    return b;
  }

  /** Bad lines are 9, 17 and 25; cycle 3 of line 9 is next. */
  private static Board beforeBadLine(int... program) {
    Board b = new Board();
    Bench.write(b, CONTROL, 17);
    Bench.runTo(b, 9, 3);
    Bench.restart(b, Bench.START, program);
    return b;
  }
}
