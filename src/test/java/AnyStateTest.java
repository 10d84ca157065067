/**
 * LANGUAGE.md 7, 'No call may ever throw': programs of any bytes, called in any order with any arguments; and
 * what promises 6 to 16 say of every answer, whatever the state is.
 */
public final class AnyStateTest {
  private static final int BOARDS = 300;
  private static final int CALLS = 512;
  private static final int CALLS_OF_A_TURN = 7;
  private static final int PHRASES = 24;
  private static final int[] EDGES = {
    Integer.MIN_VALUE, -8192, -256, -1, 0, 1, 2, 3, 6, 7, 8, 39, 40, 63, 64, 255, 256, 511, 512, 1000, 1001,
    1023, 1024, 5120, 6656, 6660, 6733, 7168, 8191, 8192, 65535, Integer.MAX_VALUE,
  };
  /** Codes that read, write, return, branch and change what an interrupt may do: no jams. */
  private static final int[] CODES = {
    141, 157, 133, 134, 132, 230, 198, 173, 189, 169, 162, 160, 105, 125, 237, 72, 104, 32, 96, 64, 88, 88, 120,
    16, 48, 80, 112, 144, 176, 208, 240, 76, 170, 168, 232, 202, 10, 74, 248, 216, 234,
  };

  private static int seed = 1;
  private static HomeBoard board;
  private static int calls;

  private AnyStateTest() {
  }

  public static void main(String[] args) {
    for (int i = 0; i < BOARDS; i++) {
      Bench.part("LANGUAGE.md 7: 'No call may ever throw', board " + i);
      try {
        useAnyhow();
      } catch (RuntimeException thrown) {
        Bench.due("call " + calls, thrown.toString(), "an answer");
      }
    }
    Bench.done();
  }

  /** The same numbers in each run of the test. */
  private static int any(int below) {
    seed = seed * 1103515245 + 12345;
    return Math.floorMod(seed >> 8, below);
  }

  private static int edge() {
    return any(2) == 0 ? EDGES[any(EDGES.length)] : any(8192);
  }

  private static void useAnyhow() {
    board = new HomeBoard();
    calls = 0;
    writeProgram();
    while (calls + CALLS_OF_A_TURN <= CALLS) {
      runAndCheck();
      change();
      ask();
    }
  }

  /** A loop that sets registers and the port and meets any codes between; interrupts lead into it, too. */
  private static void writeProgram() {
    int start = any(3) == 0 ? any(65536) : 512 + any(4096);
    int handler = start + 5 * any(PHRASES);
    int[] words = {start & 255, start >> 8, handler & 255, handler >> 8 & 255};
    for (int i = 0; i < 4; i++) {
      board.burn(2, 1020 + i, words[i]);
    }
    for (int i = 0; i < PHRASES; i++) {
      pokeAll(start + 5 * i, phrase());
    }
    pokeAll(start + 5 * PHRASES, 76, start & 255, start >> 8);
    board.power();
    calls += 8;
  }

  private static int[] phrase() {
    int value = any(2) == 0 ? 16 + any(8) : any(256);
    switch (any(9)) {
      case 0: return Bench.bytes(169, value, 141, any(256), 26 + any(2));
      case 1: return Bench.bytes(169, any(8), 133, 1, 234);
      case 2: return Bench.bytes(169, 7, 133, 1, 88);
      case 3: return Bench.bytes(162, value, 157, any(256), any(256));
      case 4: return Bench.bytes(code(), value, code(), any(256), any(256));
      case 5: return Bench.bytes(64, any(256), code(), value, 96);
      case 6: return Bench.bytes(169, value, 141, 0, 26);
      default: return Bench.bytes(169, value, 141, any(152), 26);
    }
  }

  private static int code() {
    return CODES[any(CODES.length)];
  }

  private static void pokeAll(int at, int... values) {
    for (int i = 0; i < values.length; i++) {
      board.poke((at + i) & 8191, values[i]);
    }
    calls += values.length;
  }

  private static void runAndCheck() {
    int n = any(3) == 0 ? 1 + any(1000) : 1 + any(4);
    int waited = board.stolen();
    int made = board.run(n);
    calls += 4;
    waited = board.stolen() - waited;
    boolean whole = made + waited == n;
    Bench.due("run(" + n + "): every cycle has an access, or waits, or the processor is jammed",
        whole || (made + waited < n && board.jammed()), true);
  }

  private static void change() {
    calls++;
    switch (any(8)) {
      case 0: board.burn(edge(), edge(), edge()); break;
      case 1: board.poke(edge(), edge()); break;
      case 2: board.press(edge(), edge()); break;
      case 3: board.run(edge()); break;
      case 4: board.power(); break;
      default: board.poke(any(8192), code()); break;
    }
  }

  private static void ask() {
    calls++;
    int at = edge();
    switch (any(8)) {
      case 0: within("ram", board.ram(at), isAddress(at) ? 0 : -1, isAddress(at) ? 255 : -1); break;
      case 1: within("look", board.look(at), isAddress(at) ? 0 : -1, isAddress(at) ? 255 : -1); break;
      case 2: within("register", board.register(at % 7), at % 7 < 0 ? -1 : 0, most(at % 7)); break;
      case 3: within("point", board.point(any(40), any(64)), 0, 15); break;
      case 4: within("point", board.point(at, edge()), -1, 15); break;
      case 5: within("beam", board.beam(), 0, 959); break;
      case 6: within("access", board.access(), -1, 16383); break;
      default: within("interrupts", board.interrupts(), 0, board.cycles() / 7 + 1); calls++; break;
    }
  }

  private static boolean isAddress(int at) {
    return at >= 0 && at < 8192;
  }

  private static int most(int which) {
    return which < 0 ? -1 : which == 4 ? 207 : which == 5 ? 65535 : which == 6 ? 7 : 255;
  }

  private static void within(String what, int got, int least, int most) {
    Bench.due(what + " answers " + got + ", within " + least + " .. " + most, got >= least && got <= most, true);
  }
}
