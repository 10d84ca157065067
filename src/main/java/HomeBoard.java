/** The board of a small home computer, cycle by cycle; ../shared/DOC.md says what it promises. */
public final class HomeBoard {
  public static final int NONE = -1;

  private static final int RAM_SIZE = 8192;
  private static final int LONG_ROM_SIZE = 1024;
  private static final int CHARACTERS_SIZE = 512;
  private static final int MOST_CYCLES_A_RUN = 1000;

  private final int[] ramBytes;
  private final int[] romA;
  private final int[] romC;
  private final int[] romK;
  private final PictureChip picture;
  private final InterfaceChip interfaceChip;
  private final Bus bus;
  private final Processor processor;
  private int cyclesInAll;

  public HomeBoard() {
    ramBytes = new int[RAM_SIZE];
    romA = new int[LONG_ROM_SIZE];
    romC = new int[CHARACTERS_SIZE];
    romK = new int[LONG_ROM_SIZE];
    picture = new PictureChip(ramBytes, romC);
    interfaceChip = new InterfaceChip();
    bus = new Bus(ramBytes, romA, romC, romK, picture, interfaceChip);
    processor = new Processor(bus, picture, interfaceChip);
  }

  public boolean burn(int rom, int at, int value) {
    if (rom < 0 || rom > 2 || !isByte(value)) {
      return false;
    }
    int[] bytes = rom == 0 ? romA : rom == 1 ? romC : romK;
    if (at < 0 || at >= bytes.length) {
      return false;
    }
    bytes[at] = value;
    return true;
  }

  public boolean poke(int at, int value) {
    if (!isAddress(at) || !isByte(value)) {
      return false;
    }
    ramBytes[at] = value;
    return true;
  }

  public void power() {
    processor.restart();
  }

  public boolean press(int r, int keys) {
    if (r < 0 || r >= InterfaceChip.KEY_ROWS || !isByte(keys)) {
      return false;
    }
    interfaceChip.setKeys(r, keys);
    return true;
  }

  public int run(int n) {
    if (n < 1 || n > MOST_CYCLES_A_RUN) {
      return NONE;
    }
    int made = 0;
    for (int i = 0; i < n; i++) {
      picture.beginCycle();
      interfaceChip.countTimers();
      if (processor.makeAccess(picture.wantsBus())) {
        made++;
      }
      picture.endCycle();
    }
    cyclesInAll += n;
    return made;
  }

  public int ram(int at) {
    return isAddress(at) ? ramBytes[at] : NONE;
  }

  public int look(int at) {
    return isAddress(at) ? bus.peek(at) : NONE;
  }

  public int register(int which) {
    switch (which) {
      case 0: return processor.registers.a;
      case 1: return processor.registers.x;
      case 2: return processor.registers.y;
      case 3: return processor.registers.s;
      case 4: return processor.registers.flags;
      case 5: return processor.registers.p;
      case 6: return bus.port;
      default: return NONE;
    }
  }

  public boolean jammed() {
    return processor.stuck;
  }

  public int beam() {
    return picture.line * PictureChip.LINE_CYCLES + picture.cycle;
  }

  public int point(int line, int x) {
    if (line < 0 || line >= PictureChip.LINES || x < 0 || x >= PictureChip.LINE_POINTS) {
      return NONE;
    }
    return picture.points[line * PictureChip.LINE_POINTS + x];
  }

  public int access() {
    return bus.latest;
  }

  public int cycles() {
    return cyclesInAll;
  }

  public int stolen() {
    return processor.waits;
  }

  public int interrupts() {
    return processor.interruptsBegun;
  }

  private static boolean isByte(int value) {
    return value >= 0 && value <= 255;
  }

  private static boolean isAddress(int at) {
    return at >= 0 && at < RAM_SIZE;
  }

  /** The map of memory, and the latest access that went through it. */
  private static final class Bus {
    static final int ADDRESS_MASK = RAM_SIZE - 1;
    static final int WRITTEN = RAM_SIZE;
    static final int PORT_AT = 1;
    static final int PORT_L = 1;
    static final int PORT_H = 2;
    static final int PORT_E = 4;
    static final int PORT_BITS = PORT_L | PORT_H | PORT_E;
    static final int ROM_A_AT = 5120;
    static final int REGISTERS_AT = 6656;
    static final int ROM_K_AT = 7168;
    static final int INTERFACE_AT = 64;
    static final int COLOURS_AT = 128;

    final int[] ramBytes;
    final int[] romA;
    final int[] romC;
    final int[] romK;
    final PictureChip picture;
    final InterfaceChip interfaceChip;
    int port = PORT_BITS;
    int latest = NONE;

    Bus(int[] ramBytes, int[] romA, int[] romC, int[] romK,
        PictureChip picture, InterfaceChip interfaceChip) {
      this.ramBytes = ramBytes;
      this.romA = romA;
      this.romC = romC;
      this.romK = romK;
      this.picture = picture;
      this.interfaceChip = interfaceChip;
    }

    /** A read that is an access: it is remembered, and clears what reading clears. */
    int read(int at) {
      int address = at & ADDRESS_MASK;
      latest = address;
      int value = peek(address);
      int place = address - REGISTERS_AT;
      if (showsRegisters(address) && isInterfacePlace(place)) {
        interfaceChip.clearBehindRead(place & 15);
      }
      return value;
    }

    void write(int at, int value) {
      int address = at & ADDRESS_MASK;
      int place = address - REGISTERS_AT;
      latest = address + WRITTEN;
      if (address == PORT_AT) {
        port = value & PORT_BITS;
      } else if (!showsRegisters(address)) {
        ramBytes[address] = value;
      } else if (place < INTERFACE_AT) {
        picture.writeRegister(place & 15, value);
      } else if (isInterfacePlace(place)) {
        interfaceChip.writeRegister(place & 15, value);
      } else {
        picture.setCellColour(place - COLOURS_AT, value);
      }
    }

    int peek(int at) {
      int address = at & ADDRESS_MASK;
      int place = address - REGISTERS_AT;
      if (!showsRegisters(address)) {
        return peekMemory(address);
      }
      if (place < INTERFACE_AT) {
        return picture.peekRegister(place & 15);
      }
      if (isInterfacePlace(place)) {
        return interfaceChip.peekRegister(place & 15);
      }
      return picture.cellColour(place - COLOURS_AT);
    }

    private int peekMemory(int at) {
      int address = at & ADDRESS_MASK;
      if (address == PORT_AT) {
        return port;
      }
      int romPlace = address - ROM_A_AT;
      if (romPlace >= 0 && romPlace < LONG_ROM_SIZE && (port & PORT_L) != 0 && (port & PORT_H) != 0) {
        return romA[romPlace];
      }
      if (address >= ROM_K_AT) {
        return (port & PORT_H) != 0 ? romK[address - ROM_K_AT] : ramBytes[address];
      }
      if (address >= REGISTERS_AT && (port & (PORT_L | PORT_H)) != 0) {
        return romC[address - REGISTERS_AT];
      }
      return ramBytes[address];
    }

    private boolean showsRegisters(int address) {
      return address >= REGISTERS_AT && address < ROM_K_AT
          && (port & (PORT_L | PORT_H)) != 0 && (port & PORT_E) != 0;
    }

    private static boolean isInterfacePlace(int place) {
      return place >= INTERFACE_AT && place < COLOURS_AT;
    }
  }

  private static final class PictureChip {
    static final int LINE_CYCLES = 24;
    static final int LINES = 40;
    static final int LINE_POINTS = 64;
    static final int ROW_CELLS = 8;
    static final int ROWS = 3;
    static final int CELLS = ROW_CELLS * ROWS;
    static final int FIRST_SHOWN_LINE = 8;
    static final int LAST_SHOWN_LINE = 31;
    static final int JUDGING_CYCLE = 3;
    static final int FIRST_FETCH_CYCLE = 6;
    static final int LAST_FETCH_CYCLE = 13;
    static final int ROW_DONE_CYCLE = 14;
    static final int LAST_CYCLE = LINE_CYCLES - 1;
    static final int LAST_GLYPH_LINE = 7;
    static final int SHIFT = 7;
    static final int ON = 16;
    static final int LOW_FOUR = 15;

    final int[] ramBytes;
    final int[] characters;
    final int[] points = new int[LINES * LINE_POINTS];
    final int[] colours = new int[CELLS];
    final int[] rowCodes = new int[ROW_CELLS];
    final int[] rowColours = new int[ROW_CELLS];
    int line;
    int cycle;
    private int control;
    private int compareLine;
    private int ground;
    private int border;
    private int base;
    private boolean flag;
    private boolean enabled;
    private boolean idle = true;
    private boolean bad;
    private int glyphLine;
    /** The number of rows fetched, modulo 3: nothing shows more of it. */
    private int rowToFetch;

    PictureChip(int[] ramBytes, int[] characters) {
      this.ramBytes = ramBytes;
      this.characters = characters;
    }

    void beginCycle() {
      if (cycle == 0) {
        beginLine();
      } else if (cycle == JUDGING_CYCLE) {
        judgeLine();
      } else if (cycle >= FIRST_FETCH_CYCLE && cycle <= LAST_FETCH_CYCLE) {
        int cell = cycle - FIRST_FETCH_CYCLE;
        if (bad) {
          fetchCell(cell);
        }
        paintCell(cell);
      } else if (cycle == ROW_DONE_CYCLE && bad) {
        rowToFetch = (rowToFetch + 1) % ROWS;
      } else if (cycle == LAST_CYCLE && !idle) {
        endGlyphLine();
      }
    }

    void endCycle() {
      cycle++;
      if (cycle < LINE_CYCLES) {
        return;
      }
      cycle = 0;
      line++;
      if (line >= LINES) {
        line = 0;
      }
    }

    boolean wantsBus() {
      return bad && cycle >= JUDGING_CYCLE && cycle <= LAST_FETCH_CYCLE;
    }

    boolean asksInterrupt() {
      return flag && enabled;
    }

    private void beginLine() {
      if (line == compareLine) {
        flag = true;
      }
      if (line == 0) {
        idle = true;
        rowToFetch = 0;
      }
    }

    private void judgeLine() {
      bad = isShowing() && line % 8 == (control & SHIFT);
      if (bad) {
        idle = false;
        glyphLine = 0;
      }
    }

    private boolean isShowing() {
      return line >= FIRST_SHOWN_LINE && line <= LAST_SHOWN_LINE && (control & ON) != 0;
    }

    private void fetchCell(int cell) {
      int place = ROW_CELLS * rowToFetch + cell;
      rowCodes[cell] = ramBytes[64 * base + place];
      rowColours[cell] = colours[place];
    }

    private void paintCell(int cell) {
      boolean showing = isShowing();
      int back = showing ? ground : border;
      int glyph = showing && !idle ? characters[8 * (rowCodes[cell] & 63) + glyphLine] : 0;
      int first = line * LINE_POINTS + 8 * cell;
      for (int i = 0; i < 8; i++) {
        boolean inked = (glyph >> (7 - i) & 1) != 0;
        points[first + i] = inked ? rowColours[cell] : back;
      }
    }

    /** The glyph line stays at 7 when the chip falls idle: only a bad line, which clears it, ends that. */
    private void endGlyphLine() {
      if (glyphLine == LAST_GLYPH_LINE) {
        idle = true;
      } else {
        glyphLine++;
      }
    }

    int peekRegister(int which) {
      switch (which) {
        case 0: return control;
        case 1: return line;
        case 2: return ground;
        case 3: return border;
        case 4: return flag ? (enabled ? 129 : 1) : 0;
        case 5: return enabled ? 1 : 0;
        case 6: return base;
        default: return 0;
      }
    }

    void writeRegister(int which, int value) {
      switch (which) {
        case 0: control = value & (ON | SHIFT); break;
        case 1: compareLine = value; break;
        case 2: ground = value & LOW_FOUR; break;
        case 3: border = value & LOW_FOUR; break;
        case 4: flag = flag && (value & 1) == 0; break;
        case 5: enabled = (value & 1) != 0; break;
        case 6: base = value & LOW_FOUR; break;
        default: break;
      }
    }

    int cellColour(int cell) {
      return cell >= 0 && cell < CELLS ? colours[cell] : 0;
    }

    void setCellColour(int cell, int value) {
      if (cell >= 0 && cell < CELLS) {
        colours[cell] = value & LOW_FOUR;
      }
    }
  }

  private static final class Timer {
    static final int RUN = 1;
    static final int ONCE = 8;
    static final int RELOAD = 16;
    static final int CASCADE = 64;

    private final int controlBits;
    int control;
    int count = 65535;
    private int latch = 65535;

    Timer(int controlBits) {
      this.controlBits = controlBits;
    }

    boolean isRunning() {
      return (control & RUN) != 0;
    }

    boolean isCascaded() {
      return (control & CASCADE) != 0;
    }

    /** Whether the count was 0, and so the timer's flag is to be set. */
    boolean countDown() {
      if (count != 0) {
        count--;
        return false;
      }
      count = latch;
      if ((control & ONCE) != 0) {
        control &= ~RUN;
      }
      return true;
    }

    void setLowLatch(int value) {
      latch = (latch & 0xff00) | value;
    }

    void setHighLatch(int value) {
      latch = (latch & 255) | value << 8;
      if ((control & RUN) == 0) {
        count = latch;
      }
    }

    void setControl(int value) {
      control = value & controlBits;
      if ((value & RELOAD) != 0) {
        count = latch;
      }
    }
  }

  private static final class InterfaceChip {
    static final int KEY_ROWS = 8;
    static final int FLAGS_REGISTER = 13;
    static final int FLAG_A = 1;
    static final int FLAG_B = 2;
    static final int BOTH_FLAGS = FLAG_A | FLAG_B;

    private final int[] keys = new int[KEY_ROWS];
    private final Timer timerA = new Timer(Timer.RUN | Timer.ONCE);
    private final Timer timerB = new Timer(Timer.RUN | Timer.ONCE | Timer.CASCADE);
    private int rows;
    /** What register 1 reads: it changes with the rows chosen and the keys held only. */
    private int keysSeen = 255;
    private int flags;
    private int enabled;

    void setKeys(int row, int held) {
      if (row >= 0 && row < KEY_ROWS) {
        keys[row] = held;
      }
      scanKeys();
    }

    private void scanKeys() {
      keysSeen = 255;
      for (int r = 0; r < KEY_ROWS; r++) {
        if ((rows >> r & 1) == 0) {
          keysSeen &= ~keys[r];
        }
      }
    }

    void countTimers() {
      boolean endOfA = timerA.isRunning() && timerA.countDown();
      if (endOfA) {
        flags |= FLAG_A;
      }
      boolean countsB = timerB.isRunning() && (endOfA || !timerB.isCascaded());
      if (countsB && timerB.countDown()) {
        flags |= FLAG_B;
      }
    }

    boolean asksInterrupt() {
      return (flags & enabled) != 0;
    }

    void clearBehindRead(int which) {
      if (which == FLAGS_REGISTER) {
        flags = 0;
      }
    }

    int peekRegister(int which) {
      switch (which) {
        case 0: return rows;
        case 1: return keysSeen;
        case 4: return timerA.count & 255;
        case 5: return timerA.count >> 8;
        case 6: return timerB.count & 255;
        case 7: return timerB.count >> 8;
        case FLAGS_REGISTER: return flags + ((flags & enabled) != 0 ? 128 : 0);
        case 14: return timerA.control;
        case 15: return timerB.control;
        default: return 0;
      }
    }

    void writeRegister(int which, int value) {
      switch (which) {
        case 0: rows = value; scanKeys(); break;
        case 4: timerA.setLowLatch(value); break;
        case 5: timerA.setHighLatch(value); break;
        case 6: timerB.setLowLatch(value); break;
        case 7: timerB.setHighLatch(value); break;
        case FLAGS_REGISTER: setEnabled(value); break;
        case 14: timerA.setControl(value); break;
        case 15: timerB.setControl(value); break;
        default: break;
      }
    }

    private void setEnabled(int value) {
      int chosen = value & BOTH_FLAGS;
      enabled = (value & 128) != 0 ? enabled | chosen : enabled & ~chosen;
    }
  }

  /** What the processor holds, and what it can do with it without an access. */
  private static final class Registers {
    static final int C = 1;
    static final int Z = 2;
    static final int I = 4;
    static final int D = 8;
    static final int V = 64;
    static final int N = 128;
    static final int ALL_FLAGS = C | Z | I | D | V | N;

    int a;
    int x;
    int y;
    int s = 255;
    int flags = I;
    int p;

    void reset(int start) {
      a = 0;
      x = 0;
      y = 0;
      s = 255;
      flags = I;
      p = start;
    }

    boolean has(int flag) {
      return (flags & flag) != 0;
    }

    void put(int flag, boolean set) {
      flags = set ? flags | flag : flags & ~flag;
    }

    /** Sets Z and N by a value, and answers the byte that it makes. */
    int judged(int value) {
      int made = value & 255;
      flags = flags & ~(Z | N) | (made == 0 ? Z : 0) | (made >= 128 ? N : 0);
      return made;
    }

    /** The arithmetic of the codes 32 g + 4 m + 1 but for STA (g 4), which reads no operand. */
    void calculate(int g, int operand) {
      switch (g) {
        case 0: a = judged(a | operand); break;
        case 1: a = judged(a & operand); break;
        case 2: a = judged(a ^ operand); break;
        case 3: add(operand, has(D)); break;
        case 5: a = judged(operand); break;
        case 6: compare(a, operand); break;
        case 7: add(255 - operand, false); break;
        default: break;
      }
    }

    void compare(int held, int operand) {
      judged(held - operand);
      put(C, held >= operand);
    }

    /** Z, N and V are those of the binary sum, in decimal too. */
    private void add(int operand, boolean decimal) {
      int oldA = a;
      int carry = flags & C;
      int sum = oldA + operand + carry;
      a = judged(sum);
      put(V, ((oldA ^ operand) & 128) == 0 && ((oldA ^ a) & 128) != 0);
      if (decimal) {
        sum = decimalSum(oldA, operand, carry);
        a = sum & 255;
      }
      put(C, sum > 255);
    }

    /** The two digits of the sum, and 256 more if there is a carry. */
    private static int decimalSum(int one, int other, int carry) {
      int low = (one & 15) + (other & 15) + carry;
      if (low > 9) {
        low += 6;
      }
      int high = (one >> 4) + (other >> 4) + (low > 15 ? 1 : 0);
      if (high > 9) {
        high += 6;
      }
      return 16 * high + (low & 15);
    }

    /** The codes that need nothing but one idle read. */
    void single(int code) {
      switch (code) {
        case 24: put(C, false); break;
        case 56: put(C, true); break;
        case 88: put(I, false); break;
        case 120: put(I, true); break;
        case 216: put(D, false); break;
        case 248: put(D, true); break;
        case 170: x = judged(a); break;
        case 138: a = judged(x); break;
        case 168: y = judged(a); break;
        case 152: a = judged(y); break;
        case 232: x = judged(x + 1); break;
        case 200: y = judged(y + 1); break;
        case 202: x = judged(x - 1); break;
        case 136: y = judged(y - 1); break;
        case 10: put(C, a >= 128); a = judged(a * 2); break;
        case 74: put(C, (a & 1) != 0); a = judged(a / 2); break;
        default: break;
      }
    }

    /** Whether the branch of this code is taken. */
    boolean branches(int code) {
      int flag = code < 64 ? N : code < 128 ? V : code < 192 ? C : Z;
      boolean wantsSet = (code & 32) != 0;
      return has(flag) == wantsSet;
    }
  }

  /** Works through instructions, one access a cycle: kind and step tell which access is next. */
  private static final class Processor {
    static final int START_VECTOR = 8188;
    static final int INTERRUPT_VECTOR = 8190;
    static final int STACK = 256;
    static final int UNUSED_FLAG = 32;
    static final int STORING_GROUP = 4;

    static final int BEGIN = 0;
    static final int JAM = 1;
    static final int INTERRUPT = 2;
    static final int SINGLE = 3;
    static final int OWN = 4;
    static final int SHORT = 5;
    static final int LONG = 6;
    static final int LONG_X = 7;
    static final int CHANGE = 8;
    static final int BRANCH = 9;
    static final int JUMP = 10;
    static final int CALL = 11;
    static final int RETURN = 12;
    static final int RETURN_FROM_INTERRUPT = 13;
    static final int PUSH = 14;
    static final int PULL = 15;

    final Registers registers = new Registers();
    boolean stuck = true;
    int waits;
    int interruptsBegun;
    private final Bus bus;
    private final PictureChip picture;
    private final InterfaceChip interfaceChip;
    private int kind = BEGIN;
    /** How many accesses of this instruction have been made. */
    private int step;
    private int code;
    private int low;
    private int high;
    private int changed;
    /** What a branch must still add to P for its high byte to be right. */
    private int missing;

    Processor(Bus bus, PictureChip picture, InterfaceChip interfaceChip) {
      this.bus = bus;
      this.picture = picture;
      this.interfaceChip = interfaceChip;
    }

    void restart() {
      registers.reset(word(bus.peek(START_VECTOR), bus.peek(START_VECTOR + 1)));
      stuck = false;
      waits = 0;
      interruptsBegun = 0;
      bus.latest = NONE;
      endInstruction();
    }

    /** One cycle; whether an access was made in it. */
    boolean makeAccess(boolean busWanted) {
      if (stuck) {
        return false;
      }
      if (busWanted && !writesNext()) {
        waits++;
        return false;
      }
      step++;
      switch (kind) {
        case BEGIN: begin(); break;
        case INTERRUPT: interrupt(); break;
        case SINGLE: single(); break;
        case OWN: own(); break;
        case SHORT: shortAddress(); break;
        case LONG: longAddress(); break;
        case LONG_X: longAddressX(); break;
        case CHANGE: change(); break;
        case BRANCH: branch(); break;
        case JUMP: jump(); break;
        case CALL: call(); break;
        case RETURN: returnFromCall(); break;
        case RETURN_FROM_INTERRUPT: returnFromInterrupt(); break;
        case PUSH: pushA(); break;
        case PULL: pullA(); break;
        default: break;
      }
      return true;
    }

    private boolean writesNext() {
      int next = step + 1;
      switch (kind) {
        case INTERRUPT: return next >= 3 && next <= 5;
        case SHORT: return stores() && next == 3;
        case LONG: return stores() && next == 4;
        case LONG_X: return stores() && next == 5;
        case CHANGE: return next >= 4;
        case CALL: return next == 4 || next == 5;
        case PUSH: return next == 3;
        default: return false;
      }
    }

    private static int word(int lowByte, int highByte) {
      return highByte << 8 | lowByte;
    }

    private boolean stores() {
      return code >> 5 == STORING_GROUP;
    }

    private void endInstruction() {
      kind = BEGIN;
      step = 0;
    }

    private int nextByte() {
      int value = bus.read(registers.p);
      registers.p = (registers.p + 1) & 0xffff;
      return value;
    }

    private void push(int value) {
      bus.write(STACK + registers.s, value);
      registers.s = (registers.s - 1) & 255;
    }

    private int readStack() {
      return bus.read(STACK + registers.s);
    }

    private void growStack() {
      registers.s = (registers.s + 1) & 255;
    }

    private void begin() {
      boolean asked = picture.asksInterrupt() || interfaceChip.asksInterrupt();
      if (asked && !registers.has(Registers.I)) {
        interruptsBegun++;
        kind = INTERRUPT;
        bus.read(registers.p);
        return;
      }
      code = nextByte();
      kind = kindOf(code);
      stuck = kind == JAM;
    }

    private static int kindOf(int code) {
      switch (code) {
        case 162: case 160: case 224: case 192: return OWN;
        case 134: case 132: return SHORT;
        case 230: case 198: return CHANGE;
        case 16: case 48: case 80: case 112:
        case 144: case 176: case 208: case 240: return BRANCH;
        case 76: return JUMP;
        case 32: return CALL;
        case 96: return RETURN;
        case 64: return RETURN_FROM_INTERRUPT;
        case 72: return PUSH;
        case 104: return PULL;
        case 24: case 56: case 88: case 120: case 216: case 248:
        case 170: case 138: case 168: case 152:
        case 232: case 200: case 202: case 136:
        case 10: case 74: case 234: return SINGLE;
        default: return arithmeticKindOf(code);
      }
    }

    private static int arithmeticKindOf(int code) {
      if ((code & 3) != 1) {
        return JAM;
      }
      switch (code >> 2 & 7) {
        case 1: return SHORT;
        case 2: return code >> 5 == STORING_GROUP ? JAM : OWN;
        case 3: return LONG;
        case 7: return LONG_X;
        default: return JAM;
      }
    }

    private void interrupt() {
      switch (step) {
        case 2: bus.read(registers.p); break;
        case 3: push(registers.p >> 8); break;
        case 4: push(registers.p & 255); break;
        case 5:
          push(registers.flags | UNUSED_FLAG);
          registers.put(Registers.I, true);
          break;
        case 6: low = bus.read(INTERRUPT_VECTOR); break;
        default:
          registers.p = word(low, bus.read(INTERRUPT_VECTOR + 1));
          endInstruction();
          break;
      }
    }

    private void single() {
      bus.read(registers.p);
      registers.single(code);
      endInstruction();
    }

    private void own() {
      int operand = nextByte();
      switch (code) {
        case 162: registers.x = registers.judged(operand); break;
        case 160: registers.y = registers.judged(operand); break;
        case 224: registers.compare(registers.x, operand); break;
        case 192: registers.compare(registers.y, operand); break;
        default: registers.calculate(code >> 5, operand); break;
      }
      endInstruction();
    }

    private void shortAddress() {
      if (step == 2) {
        low = nextByte();
      } else {
        useOperandAt(low);
      }
    }

    private void longAddress() {
      switch (step) {
        case 2: low = nextByte(); break;
        case 3: high = nextByte(); break;
        default: useOperandAt(word(low, high)); break;
      }
    }

    private void longAddressX() {
      switch (step) {
        case 2: low = nextByte(); break;
        case 3: high = nextByte(); break;
        case 4: readBeforeCarry(); break;
        default: useOperandAt(word(low, high) + registers.x); break;
      }
    }

    /** The adder has the low byte only: the read counts if the high byte was right already. */
    private void readBeforeCarry() {
      int sum = low + registers.x;
      int value = bus.read(word(sum & 255, high));
      if (sum <= 255 && !stores()) {
        registers.calculate(code >> 5, value);
        endInstruction();
      }
    }

    private void useOperandAt(int address) {
      if (stores()) {
        bus.write(address, code == 134 ? registers.x : code == 132 ? registers.y : registers.a);
      } else {
        registers.calculate(code >> 5, bus.read(address));
      }
      endInstruction();
    }

    private void change() {
      switch (step) {
        case 2: low = nextByte(); break;
        case 3: changed = bus.read(low); break;
        case 4: bus.write(low, changed); break;
        default:
          bus.write(low, registers.judged(code == 230 ? changed + 1 : changed - 1));
          endInstruction();
          break;
      }
    }

    private void branch() {
      switch (step) {
        case 2:
          low = nextByte();
          if (!registers.branches(code)) {
            endInstruction();
          }
          break;
        case 3: branchLow(); break;
        default:
          bus.read(registers.p);
          registers.p = (registers.p + missing) & 0xffff;
          endInstruction();
          break;
      }
    }

    private void branchLow() {
      bus.read(registers.p);
      int sum = (registers.p & 255) + (low < 128 ? low : low - 256);
      registers.p = word(sum & 255, registers.p >> 8);
      missing = sum - (sum & 255);
      if (missing == 0) {
        endInstruction();
      }
    }

    private void jump() {
      if (step == 2) {
        low = nextByte();
      } else {
        registers.p = word(low, nextByte());
        endInstruction();
      }
    }

    private void call() {
      switch (step) {
        case 2: low = nextByte(); break;
        case 3: readStack(); break;
        case 4: push(registers.p >> 8); break;
        case 5: push(registers.p & 255); break;
        default:
          registers.p = word(low, nextByte());
          endInstruction();
          break;
      }
    }

    private void returnFromCall() {
      switch (step) {
        case 2: bus.read(registers.p); break;
        case 3: readStack(); growStack(); break;
        case 4: low = readStack(); growStack(); break;
        case 5: registers.p = word(low, readStack()); break;
        default: nextByte(); endInstruction(); break;
      }
    }

    private void returnFromInterrupt() {
      switch (step) {
        case 2: bus.read(registers.p); break;
        case 3: readStack(); growStack(); break;
        case 4: registers.flags = readStack() & Registers.ALL_FLAGS; growStack(); break;
        case 5: registers.p = word(readStack(), registers.p >> 8); growStack(); break;
        default:
          registers.p = word(registers.p & 255, readStack());
          endInstruction();
          break;
      }
    }

    private void pushA() {
      if (step == 2) {
        bus.read(registers.p);
      } else {
        push(registers.a);
        endInstruction();
      }
    }

    private void pullA() {
      switch (step) {
        case 2: bus.read(registers.p); break;
        case 3: readStack(); growStack(); break;
        default:
          registers.a = registers.judged(readStack());
          endInstruction();
          break;
      }
    }
  }
}
