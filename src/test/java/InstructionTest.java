/** "Terms", INSTRUCTIONS (promises 6, 9, 13), access by access: where they read and write, and what they leave. */
public final class InstructionTest {
  private static final int AT = 1024;

  public static void main(String[] args) {
    shorts();
    longs();
    longX();
    owns();
    stores();
    changes();
    branches();
    branchesLookAtOneFlag();
    branchBytes();
    jumps();
    calls();
    returns();
    lastReadOfReturn();
    returnsFromInterrupt();
    flagsFromTheStack();
    pushesAndPulls();
    stackWrapsOfCall();
    stackWrapsOfReturn();
    stackWrapsOfReturnFromInterrupt();
    stackWrapsOfPushAndPull();
    comparesOfXAndY();
    flagsAreApart();
    singles();
    pWraps();
    pIsNotCut();
    Bench.done();
  }

  private static void part(String sentence) {
    Bench.part("Terms, INSTRUCTIONS: '" + sentence + "'");
  }

  /** A board that has run the prefix (instructions of two cycles), with the code at 1024. */
  private static Board ready(int[] prefix, int... code) {
    Board b = new Board();
    Bench.setVectors(b, AT - prefix.length);
    Bench.pokeAll(b, AT - prefix.length, prefix);
    Bench.pokeAll(b, AT, code);
    b.power();
    for (int i = 0; i < 60 && b.register(5) < AT; i++) {
      b.run(2);
    }
    Bench.due("P behind the prefix", b.register(5), AT);
    return b;
  }

  private static int[] start(int a, int x, int y) {
    return Bench.bytes(160, y, 162, x, 169, a);
  }

  private static void follows(String name, Board b, String trace, String state) {
    Bench.due(name + ": accesses", Bench.trace(b, trace.split(" ").length), trace);
    Bench.due(name + ": state", Bench.state(b), state);
    int end = b.register(5) & 8191;
    b.run(1);
    Bench.due(name + ": the next code's access", b.access(), end);
  }

  private static void shorts() {
    part("m 1 SHORT: a byte is read, it is the address");
    int[] codes = {5, 37, 69, 101, 165, 197, 229};
    String[] states = {
      "A252 X7 Y3 S255 F132", "A16 X7 Y3 S255 F4", "A236 X7 Y3 S255 F132", "A12 X7 Y3 S255 F5",
      "A60 X7 Y3 S255 F4", "A208 X7 Y3 S255 F133", "A147 X7 Y3 S255 F133"
    };
    for (int i = 0; i < codes.length; i++) {
      Board b = ready(start(208, 7, 3), codes[i], 200);
      b.poke(200, 60);
      follows("SHORT " + codes[i], b, "r1024 r1025 r200", states[i] + " P1026");
    }
  }

  private static void longs() {
    part("m 3 LONG: two bytes, the address, the low one first");
    int[] codes = {13, 45, 77, 109, 173, 205, 237};
    String[] states = {
      "A255 X7 Y3 S255 F132", "A0 X7 Y3 S255 F6", "A255 X7 Y3 S255 F132", "A255 X7 Y3 S255 F132",
      "A170 X7 Y3 S255 F132", "A85 X7 Y3 S255 F132", "A170 X7 Y3 S255 F196"
    };
    for (int i = 0; i < codes.length; i++) {
      Board b = ready(start(85, 7, 3), codes[i], 2, 6);
      b.poke(1538, 170);
      follows("LONG " + codes[i], b, "r1024 r1025 r1026 r1538", states[i] + " P1027");
    }
    Board far = ready(start(0, 0, 0), 173, 255, 255);
    far.burn(2, 1023, 9);
    follows("LONG at 65535", far, "r1024 r1025 r1026 r8191", "A9 X0 Y0 S255 F4 P1027");
  }

  private static void longX() {
    part("if low + X is above 255 or it is STA, the access with the true address follows");
    Board same = ready(start(1, 15, 0), 189, 240, 6);
    same.poke(1536 + 255, 33);
    follows("LONG X, 255", same, "r1024 r1025 r1026 r1791", "A33 X15 Y0 S255 F4 P1027");
    Board over = ready(start(1, 16, 0), 189, 240, 6);
    over.poke(1536, 44);
    over.poke(1792, 55);
    follows("LONG X, 256", over, "r1024 r1025 r1026 r1536 r1792", "A55 X16 Y0 S255 F4 P1027");
    Board end = ready(start(1, 255, 0), 189, 255, 255);
    end.poke(254, 66);
    follows("LONG X over 65535", end, "r1024 r1025 r1026 r8190 r254", "A66 X255 Y0 S255 F4 P1027");
    int[] codes = {29, 61, 93, 125, 189, 221, 253};
    int[] results = {3, 2, 1, 5, 3, 2, 254};
    for (int i = 0; i < codes.length; i++) {
      Board near = ready(start(2, 1, 0), codes[i], 0, 6);
      near.poke(1537, 3);
      near.run(4);
      Bench.due("LONG X " + codes[i], near.register(0), results[i]);
      Board crossing = ready(start(2, 1, 0), codes[i], 255, 6);
      crossing.poke(1536, 100);
      crossing.poke(1792, 3);
      crossing.run(4);
      Bench.due("LONG X crossing " + codes[i] + ", before", crossing.register(0), 2);
      crossing.run(1);
      Bench.due("LONG X crossing " + codes[i], crossing.register(0), results[i]);
    }
  }

  private static void owns() {
    part("m 2 OWN: the byte itself is the operand");
    own("ORA", 9, 129, "A195 X70 Y80 S255 F132");
    own("AND", 41, 129, "A0 X70 Y80 S255 F6");
    own("EOR", 73, 66, "A0 X70 Y80 S255 F6");
    own("ADC", 105, 66, "A132 X70 Y80 S255 F196");
    own("LDA", 169, 0, "A0 X70 Y80 S255 F6");
    own("CMP equal", 201, 66, "A66 X70 Y80 S255 F7");
    own("CMP less", 201, 67, "A66 X70 Y80 S255 F132");
    own("SBC", 233, 1, "A64 X70 Y80 S255 F5");
    own("LDX", 162, 200, "A66 X200 Y80 S255 F132");
    own("LDX 0", 162, 0, "A66 X0 Y80 S255 F6");
    own("LDY", 160, 200, "A66 X70 Y200 S255 F132");
    own("LDY 0", 160, 0, "A66 X70 Y0 S255 F6");
    own("CPX equal", 224, 70, "A66 X70 Y80 S255 F7");
    own("CPX less", 224, 71, "A66 X70 Y80 S255 F132");
    own("CPX more", 224, 69, "A66 X70 Y80 S255 F5");
    own("CPY equal", 192, 80, "A66 X70 Y80 S255 F7");
    own("CPY less", 192, 81, "A66 X70 Y80 S255 F132");
    own("CPY more", 192, 79, "A66 X70 Y80 S255 F5");
    own("CMP with a high byte", 201, 200, "A66 X70 Y80 S255 F4");
  }

  private static void own(String name, int code, int operand, String state) {
    follows(name, ready(start(66, 70, 80), code, operand), "r1024 r1025", state + " P1026");
  }

  private static void stores() {
    part("a write of A for STA; 134 STX, 132 STY: SHORT");
    String state = "A130 X16 Y77 S255 F132";
    stored("STA SHORT", 130, 200, "r1024 r1025 w200", state + " P1026", 133, 200);
    stored("STX SHORT", 16, 200, "r1024 r1025 w200", state + " P1026", 134, 200);
    stored("STY SHORT", 77, 200, "r1024 r1025 w200", state + " P1026", 132, 200);
    stored("STA LONG", 130, 1541, "r1024 r1025 r1026 w1541", state + " P1027", 141, 5, 6);
    stored("STA LONG X", 130, 1557, "r1024 r1025 r1026 r1557 w1557", state + " P1027", 157, 5, 6);
    stored("STA LONG X over", 130, 1792, "r1024 r1025 r1026 r1536 w1792", state + " P1027", 157, 240, 6);
    Board port = ready(start(253, 0, 0), 133, 1);
    follows("STA to the port", port, "r1024 r1025 w1", "A253 X0 Y0 S255 F132 P1026");
    Bench.due("the port", port.register(6), 5);
  }

  private static void stored(String name, int value, int at, String trace, String state, int... code) {
    Board b = ready(start(130, 16, 77), code);
    b.poke(at, 1);
    b.poke(1536, 1);
    follows(name, b, trace, state);
    Bench.due(name + ": byte", b.ram(at), value);
  }

  private static void changes() {
    part("230 INC, 198 DEC: .. a read, a write of what was read, a write of that plus or minus 1, Z and N by it");
    change("INC", 230, 5, 6);
    change("INC to 128", 230, 127, 128);
    change("INC to 0", 230, 255, 0);
    change("DEC", 198, 6, 5);
    change("DEC to 0", 198, 1, 0);
    change("DEC to 255", 198, 0, 255);
    Board b = ready(start(0, 0, 0), 230, 1);
    Bench.due("INC of the port", Bench.follow(b, 6, 5), "7 7 7 7 0");
    Bench.due("Z by 8, not by the port", b.register(4), 4);
    Board c = ready(Bench.bytes(169, 0), 198, 1);
    c.poke(AT, 133);
    c.poke(AT + 2, 198);
    c.poke(AT + 3, 1);
    c.run(3);
    Bench.due("DEC of the port at 0", Bench.follow(c, 6, 5), "0 0 0 0 7");
    Bench.due("N by 255", c.register(4), 132);
  }

  private static void change(String name, int code, int before, int behind) {
    int flags = behind == 0 ? 6 : behind > 127 ? 132 : 4;
    Board b = ready(start(9, 9, 9), code, 200);
    b.poke(200, before);
    b.run(3);
    Bench.due(name + ": the read", b.access(), 200);
    b.poke(200, 99);
    b.run(1);
    Bench.due(name + ": the first write", b.access(), 200 + 8192);
    Bench.due(name + ": what was read comes back", b.ram(200), before);
    Bench.due(name + ": flags wait for the second", b.register(4), 4);
    b.run(1);
    Bench.due(name + ": byte", b.ram(200), behind);
    Bench.due(name + ": state", Bench.state(b), "A9 X9 Y9 S255 F" + flags + " P1026");
    Bench.due(name + ": access", b.access(), 200 + 8192);
  }

  /** Each branch with its flag clear and set; V comes from an ADC. */
  private static void branches() {
    part("16 N clear, 48 N set, 80 V clear, 112 V set, 144 C clear, 176 C set, 208 Z clear, 240 Z set");
    int[] codes = {16, 48, 80, 112, 144, 176, 208, 240};
    int[][] clear = {start(1, 1, 1), start(1, 1, 1), start(1, 1, 1), start(1, 1, 1),
        {24}, {24}, start(1, 1, 1), start(1, 1, 1)};
    int[][] set = {start(128, 1, 1), start(128, 1, 1), {169, 127, 105, 1}, {169, 127, 105, 1},
        {56}, {56}, start(0, 0, 0), start(0, 0, 0)};
    for (int i = 0; i < 8; i++) {
      boolean whenSet = i % 2 == 1;
      branched(ready(clear[i], codes[i], 16), "clear, " + codes[i], !whenSet);
      branched(ready(set[i], codes[i], 16), "set, " + codes[i], whenSet);
    }
  }

  private static void branched(Board b, String name, boolean taken) {
    int flags = b.register(4);
    Bench.due(name, Bench.trace(b, 4), taken ? "r1024 r1025 r1026 r1042" : "r1024 r1025 r1026 -");
    Bench.due(name + ": flags", b.register(4), flags);
  }

  /** The flags come from the stack, by RETURN FROM INTERRUPT. */
  private static void branchesLookAtOneFlag() {
    part("BRANCH if it is so: whatever the other flags are");
    int[] codes = {16, 48, 80, 112, 144, 176, 208, 240};
    int[] looked = {128, 128, 64, 64, 1, 1, 2, 2};
    for (int i = 0; i < 8; i++) {
      for (int flags = 0; flags < 256; flags++) {
        if ((flags & 48) == 0) {
          Board b = Bench.board(64);
          Bench.pokeAll(b, 256, flags, 0, 6);
          Bench.pokeAll(b, 1536, codes[i], 5, 234);
          b.run(9);
          boolean taken = (flags & looked[i]) != 0 == (i % 2 == 1);
          Bench.due("branch " + codes[i] + " with flags " + flags, Bench.trace(b, 1), taken ? "r1543" : "r1539");
        }
      }
    }
  }

  private static void branchBytes() {
    part("(128 .. 255 are 256 less), and if the sum needs another high byte, a read at P with .. the old high one");
    branchFrom(1024, 0, "1025 1026 1026 1027", "r1024 r1025 r1026 r1026");
    branchFrom(1024, 127, "1025 1026 1153 1154", "r1024 r1025 r1026 r1153");
    branchFrom(1150, 127, "1151 1152 1279 1280", "r1150 r1151 r1152 r1279");
    branchFrom(1151, 127, "1152 1153 1024 1280 1281", "r1151 r1152 r1153 r1024 r1280");
    branchFrom(1150, 128, "1151 1152 1024 1025", "r1150 r1151 r1152 r1024");
    branchFrom(1149, 128, "1150 1151 1279 1023 1024", "r1149 r1150 r1151 r1279 r1023");
    branchFrom(1024, 254, "1025 1026 1024 1025", "r1024 r1025 r1026 r1024");
    branchFrom(1024, 253, "1025 1026 1279 1023 1024", "r1024 r1025 r1026 r1279 r1023");
    branchFrom(65534 - 5, 127, "65530 65531 65402 122 123", "r8185 r8186 r8187 r8058 r122");
    branchFrom(2, 252, "3 4 0 1", "r2 r3 r4 r0");
    branchFrom(2, 251, "3 4 255 65535 0", "r2 r3 r4 r255 r8191");
  }

  private static void branchFrom(int at, int offset, String ps, String trace) {
    for (int pass = 0; pass < 2; pass++) {
      Board b = Bench.boardAt(at, 208, offset);
      if (at > 8191) {
        b.burn(2, (at & 8191) - 7168, 208);
        b.burn(2, (at + 1 & 8191) - 7168, offset);
      }
      int n = trace.split(" ").length;
      String name = "branch at " + at + " by " + offset;
      if (pass == 0) {
        Bench.due(name + ": accesses", Bench.trace(b, n), trace);
      } else {
        Bench.due(name + ": P", Bench.follow(b, 5, n), ps);
      }
    }
  }

  private static void jumps() {
    part("76 JUMP: two bytes, which make P");
    follows("JUMP", ready(start(1, 2, 3), 76, 5, 6), "r1024 r1025 r1026", "A1 X2 Y3 S255 F4 P1541");
    Bench.due("JUMP: P", Bench.follow(ready(start(1, 2, 3), 76, 5, 230), 5, 3), "1025 1026 58885");
  }

  private static void calls() {
    part("32 CALL");
    Board b = ready(start(1, 2, 3), 32, 5, 6);
    follows("CALL", b, "r1024 r1025 r511 w511 w510 r1026", "A1 X2 Y3 S253 F4 P1541");
    Bench.due("CALL: high", b.ram(511), 4);
    Bench.due("CALL: low", b.ram(510), 2);
    Board odd = Bench.boardAt(1021, 32, 5, 6);
    odd.run(6);
    Bench.due("CALL: low, 255", odd.ram(510), 255);
    Bench.due("CALL: high before a new one", odd.ram(511), 3);
    Bench.due("CALL: S", Bench.follow(ready(start(1, 2, 3), 32, 5, 6), 3, 6), "255 255 255 254 253 253");
    Bench.due("CALL: P", Bench.follow(ready(start(1, 2, 3), 32, 5, 6), 5, 6), "1025 1026 1026 1026 1026 1541");
    Board wrap = ready(start(1, 2, 3), 104, 32, 5, 6);
    wrap.run(4);
    Bench.due("CALL, S wraps: accesses", Bench.trace(wrap, 6), "r1025 r1026 r256 w256 w511 r1027");
    Bench.due("CALL, S wraps: S", wrap.register(3), 254);
    Board far = Bench.boardAt(65024 - 3072, 32, 5, 6);
    far.run(6);
    Bench.due("CALL: P's high byte of 8 bits", far.ram(511), (65024 - 3072) >> 8);
  }

  private static void returns() {
    part("96 RETURN");
    Board b = ready(start(1, 2, 3), 96);
    b.poke(256, 5);
    b.poke(257, 230);
    follows("RETURN", b, "r1024 r1025 r511 r256 r257 r1541", "A1 X2 Y3 S1 F4 P58886");
    Board c = ready(start(1, 2, 3), 96);
    c.poke(256, 255);
    c.poke(257, 255);
    Bench.due("RETURN: P", Bench.follow(c, 5, 6), "1025 1025 1025 1025 65535 0");
    Bench.due("RETURN: S", Bench.follow(ready(start(1, 2, 3), 96), 3, 6), "255 255 0 1 1 1");
    Board both = ready(start(1, 2, 3), 32, 0, 6, 2);
    both.poke(1536, 96);
    both.run(12);
    Bench.due("CALL and RETURN", Bench.state(both), "A1 X2 Y3 S255 F4 P1027");
  }

  private static void lastReadOfReturn() {
    part("96 RETURN: .. a read at P, and P grows by 1: it clears what reading clears");
    int flags = Bench.INTERFACE + 13;
    Board b = new Board();
    Bench.writeAll(b, Bench.INTERFACE + 4, 0, 0);
    Bench.write(b, Bench.INTERFACE + 14, 9);
    Bench.pokeAll(b, 256, flags & 255, flags >> 8);
    Bench.restart(b, AT, 96);
    b.run(5);
    Bench.due("before it", b.look(flags), 1);
    b.run(1);
    Bench.due("behind it", b.look(flags), 0);
  }

  private static void returnsFromInterrupt() {
    part("64 RETURN FROM INTERRUPT .. changes P's bytes one by one");
    Board b = fromInterrupt();
    follows("RETURN FROM INTERRUPT", b, "r1024 r1025 r511 r256 r257 r258", "A1 X2 Y3 S2 F207 P58885");
    Bench.due("RETURN FROM INTERRUPT: P", Bench.follow(fromInterrupt(), 5, 6), "1025 1025 1025 1025 1029 58885");
    Bench.due("RETURN FROM INTERRUPT: S", Bench.follow(fromInterrupt(), 3, 6), "255 255 0 1 2 2");
    Bench.due("RETURN FROM INTERRUPT: flags", Bench.follow(fromInterrupt(), 4, 6), "4 4 4 207 207 207");
    Board none = fromInterrupt();
    none.poke(256, 48);
    none.run(6);
    Bench.due("no flag left", none.register(4), 0);
  }

  private static Board fromInterrupt() {
    Board b = ready(start(1, 2, 3), 64);
    Bench.pokeAll(b, 256, 255, 5, 230);
    return b;
  }

  private static void pushesAndPulls() {
    part("72 PUSH A, 104 PULL A");
    Board b = ready(start(129, 2, 3), 72);
    b.run(2);
    Bench.due("PUSH: S before the write", b.register(3), 255);
    b.run(1);
    Bench.due("PUSH: access", b.access(), 511 + 8192);
    Bench.due("PUSH: byte", b.ram(511), 129);
    Bench.due("PUSH: state", Bench.state(b), "A129 X2 Y3 S254 F132 P1025");
    follows("PUSH", ready(start(129, 2, 3), 72), "r1024 r1025 w511", "A129 X2 Y3 S254 F132 P1025");
    int[] pulled = {0, 1, 200};
    int[] flags = {6, 4, 132};
    for (int i = 0; i < 3; i++) {
      Board p = ready(start(77, 2, 3), 104);
      p.poke(256, pulled[i]);
      follows("PULL " + pulled[i], p, "r1024 r1025 r511 r256",
          "A" + pulled[i] + " X2 Y3 S0 F" + flags[i] + " P1025");
      Board q = ready(start(77, 2, 3), 104);
      Bench.due("PULL: S", Bench.follow(q, 3, 4), "255 255 0 0");
    }
  }

  private static void singles() {
    part("With one read at P behind the code");
    single("C cleared", 24, Bench.bytes(169, 5, 56), "A5 X0 Y0 S255 F4");
    single("C set", 56, start(5, 6, 7), "A5 X6 Y7 S255 F5");
    single("I cleared", 88, start(5, 6, 7), "A5 X6 Y7 S255 F0");
    single("I set", 120, Bench.bytes(88), "A0 X0 Y0 S255 F4");
    single("I set again", 120, start(5, 6, 7), "A5 X6 Y7 S255 F4");
    single("D set", 248, start(5, 6, 7), "A5 X6 Y7 S255 F12");
    single("D cleared", 216, Bench.bytes(248), "A0 X0 Y0 S255 F4");
    single("X = A", 170, start(200, 6, 7), "A200 X200 Y7 S255 F132");
    single("X = A, 0", 170, Bench.bytes(169, 0, 162, 5), "A0 X0 Y0 S255 F6");
    single("A = X", 138, start(5, 200, 7), "A200 X200 Y7 S255 F132");
    single("A = X, 0", 138, start(5, 0, 7), "A0 X0 Y7 S255 F6");
    single("Y = A", 168, start(200, 6, 7), "A200 X6 Y200 S255 F132");
    single("Y = A, 0", 168, Bench.bytes(160, 5), "A0 X0 Y0 S255 F6");
    single("A = Y", 152, start(5, 6, 200), "A200 X6 Y200 S255 F132");
    single("A = Y, 0", 152, start(5, 6, 0), "A0 X6 Y0 S255 F6");
    single("X plus 1", 232, start(5, 127, 7), "A5 X128 Y7 S255 F132");
    single("X plus 1 wraps", 232, start(5, 255, 7), "A5 X0 Y7 S255 F6");
    single("Y plus 1", 200, start(5, 6, 127), "A5 X6 Y128 S255 F132");
    single("Y plus 1 wraps", 200, start(5, 6, 255), "A5 X6 Y0 S255 F6");
    single("X minus 1", 202, start(5, 1, 7), "A5 X0 Y7 S255 F6");
    single("X minus 1 wraps", 202, start(5, 0, 7), "A5 X255 Y7 S255 F132");
    single("Y minus 1", 136, start(5, 6, 1), "A5 X6 Y0 S255 F6");
    single("Y minus 1 wraps", 136, start(5, 6, 0), "A5 X6 Y255 S255 F132");
    single("A times 2", 10, start(192, 6, 7), "A128 X6 Y7 S255 F133");
    single("A times 2, 0", 10, start(128, 6, 7), "A0 X6 Y7 S255 F7");
    single("A times 2, C cleared", 10, Bench.bytes(56, 169, 127), "A254 X0 Y0 S255 F132");
    single("A / 2", 74, start(255, 6, 7), "A127 X6 Y7 S255 F5");
    single("A / 2, 0", 74, start(1, 6, 7), "A0 X6 Y7 S255 F7");
    single("A / 2, C cleared", 74, Bench.bytes(56, 169, 128), "A64 X0 Y0 S255 F4");
    single("nothing", 234, start(200, 6, 7), "A200 X6 Y7 S255 F132");
  }

  private static void single(String name, int code, int[] prefix, String state) {
    follows(name, ready(prefix, code, 105), "r1024 r1025", state + " P1025");
    Board b = ready(prefix, code);
    String before = Bench.state(b).replace("P1024", "P1025");
    b.run(1);
    Bench.due(name + ": the code alone changes nothing", Bench.state(b), before);
  }

  private static void flagsFromTheStack() {
    part("a read at 256 + S (the flags, without 32 and 16)");
    for (int flags = 0; flags < 256; flags++) {
      Board b = Bench.board(64);
      b.poke(256, flags);
      b.run(4);
      Bench.due("flags " + flags, b.register(4), flags & 207);
    }
  }

  /** A board whose S is as told (0 to 4 by pulls, 252 to 255 by pushes), with the code at 1024. */
  private static Board stacked(int s, int... code) {
    int moves = s < 128 ? s + 1 : 255 - s;
    int[] prefix = new int[moves];
    java.util.Arrays.fill(prefix, s < 128 ? 104 : 72);
    Board b = Bench.boardAt(AT - moves, prefix);
    Bench.pokeAll(b, AT, code);
    if (moves > 0) {
      b.run(moves * (s < 128 ? 4 : 3));
    }
    Bench.due("S before it", b.register(3), s);
    Bench.due("P before it", b.register(5), AT);
    return b;
  }

  private static void wrap(String name, Board b, String trace, int s) {
    Bench.due(name, Bench.trace(b, trace.split(" ").length), trace);
    Bench.due(name + ": S", b.register(3), s);
  }

  private static void stackWrapsOfCall() {
    part("32 CALL: .. at 256 + S, which falls each time; S wraps");
    wrap("S 255", stacked(255, 32, 5, 6), "r1024 r1025 r511 w511 w510 r1026", 253);
    wrap("S 0", stacked(0, 32, 5, 6), "r1024 r1025 r256 w256 w511 r1026", 254);
    wrap("S 1", stacked(1, 32, 5, 6), "r1024 r1025 r257 w257 w256 r1026", 255);
    wrap("S 2", stacked(2, 32, 5, 6), "r1024 r1025 r258 w258 w257 r1026", 0);
  }

  private static void stackWrapsOfReturn() {
    part("96 RETURN: .. S grows; S wraps");
    Board b = stacked(255, 96);
    Bench.pokeAll(b, 256, 7, 6);
    wrap("S 255", b, "r1024 r1025 r511 r256 r257 r1543", 1);
    Board c = stacked(254, 96);
    c.poke(511, 7);
    c.poke(256, 6);
    wrap("S 254", c, "r1024 r1025 r510 r511 r256 r1543", 0);
    Board d = stacked(253, 96);
    d.poke(510, 7);
    d.poke(511, 6);
    wrap("S 253", d, "r1024 r1025 r509 r510 r511 r1543", 255);
  }

  private static void stackWrapsOfReturnFromInterrupt() {
    part("64 RETURN FROM INTERRUPT: .. S grows; S wraps");
    wrap("S 255", stacked(255, 64), "r1024 r1025 r511 r256 r257 r258", 2);
    wrap("S 254", stacked(254, 64), "r1024 r1025 r510 r511 r256 r257", 1);
    wrap("S 253", stacked(253, 64), "r1024 r1025 r509 r510 r511 r256", 0);
    wrap("S 252", stacked(252, 64), "r1024 r1025 r508 r509 r510 r511", 255);
  }

  private static void stackWrapsOfPushAndPull() {
    part("72 PUSH A: .. S falls; 104 PULL A: .. S grows; S wraps");
    wrap("PUSH, S 0", stacked(0, 72), "r1024 r1025 w256", 255);
    wrap("PUSH, S 1", stacked(1, 72), "r1024 r1025 w257", 0);
    wrap("PUSH, S 255", stacked(255, 72), "r1024 r1025 w511", 254);
    wrap("PULL, S 255", stacked(255, 104), "r1024 r1025 r511 r256", 0);
    wrap("PULL, S 254", stacked(254, 104), "r1024 r1025 r510 r511", 255);
    wrap("PULL, S 0", stacked(0, 104), "r1024 r1025 r256 r257", 1);
  }

  /** Each row: the flags that may change, and the codes that may change them. */
  private static final int[][] CHANGING = {
    {1, 24, 56}, {4, 88, 120}, {8, 216, 248},
    {2 + 128, 9, 41, 73, 169, 162, 160, 5, 37, 69, 165, 13, 45, 77, 173, 29, 61, 93, 189, 230, 198, 104,
        170, 138, 168, 152, 232, 200, 202, 136},
    {1 + 2 + 128, 201, 197, 205, 221, 224, 192, 10, 74},
    {1 + 2 + 64 + 128, 105, 101, 109, 125, 233, 229, 237, 253},
    {0, 133, 141, 157, 134, 132, 16, 48, 80, 112, 144, 176, 208, 240, 76, 32, 96, 72, 234},
  };

  /** All flags but I are set or clear before the code; RETURN FROM INTERRUPT takes them from the stack. */
  private static void flagsAreApart() {
    part("what sets a flag leaves the others");
    for (int[] row : CHANGING) {
      for (int i = 1; i < row.length; i++) {
        for (int flags : new int[] {0, 207, 4, 203}) {
          Board b = Bench.board(64);
          Bench.pokeAll(b, 256, flags, 0, 6);
          Bench.pokeAll(b, 1536, row[i], 60, 0);
          Bench.due("run", b.run(6 + 2), 8);
          b.run(4);
          Bench.due("code " + row[i] + " with flags " + flags, b.register(4) & ~row[0], flags & ~row[0]);
        }
      }
    }
  }

  private static void comparesOfXAndY() {
    part("224 CPX, 192 CPY: OWN, as .. CMP: Z and N by the difference modulo 256, C if it is not less");
    int[][] rows = {{0, 0, 3}, {0, 1, 128}, {0, 255, 0}, {255, 255, 3}, {255, 0, 129}, {255, 254, 1},
        {127, 128, 128}, {128, 127, 1}, {128, 0, 129}, {0, 128, 128}, {0, 129, 0}};
    for (int[] row : rows) {
      Board x = ready(start(0, row[0], 0), 224, row[1]);
      x.run(2);
      Bench.due("CPX " + row[0] + ", " + row[1], x.register(4), 4 + row[2]);
      Bench.due("X stays", x.register(1), row[0]);
      Board y = ready(start(0, 0, row[0]), 192, row[1]);
      y.run(2);
      Bench.due("CPY " + row[0] + ", " + row[1], y.register(4), 4 + row[2]);
      Bench.due("Y stays", y.register(2), row[0]);
    }
  }

  private static void pWraps() {
    part("P grows by 1, as with each byte of the instruction that is read: behind 65535 comes 0");
    Board b = Bench.boardAt(65535);
    b.burn(2, 1023, 169);
    b.poke(0, 7);
    Bench.due("P behind 65535", Bench.follow(b, 5, 2), "0 1");
    Bench.due("A", b.register(0), 7);
    Board c = Bench.boardAt(65534);
    c.burn(2, 1022, 173);
    c.burn(2, 1023, 200);
    c.poke(200, 9);
    Bench.due("an instruction over the end", Bench.follow(c, 5, 4), "65535 0 1 1");
    Bench.due("A", c.register(0), 9);
    Board jam = Bench.boardAt(65535);
    jam.burn(2, 1023, Bench.JAM);
    jam.run(1);
    Bench.due("P behind a code that jams", jam.register(5), 0);
    Bench.due("a jump to 65535", Bench.follow(ready(start(0, 0, 0), 76, 255, 255), 5, 4), "1025 1026 65535 0");
  }

  private static void pIsNotCut() {
    part("P, an address of 16 bits");
    Board b = Bench.boardAt(8190);
    b.burn(2, 1022, 234);
    b.burn(2, 1023, 234);
    b.poke(0, 234);
    Bench.due("P goes on behind 8191", Bench.follow(b, 5, 5), "8191 8191 8192 8192 8193");
  }
}
