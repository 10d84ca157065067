/** ADC, SBC and CMP of every pair of bytes, with and without C and D (promise 6). */
public final class ArithmeticTest {
  private static final int C = 1;
  private static final int Z = 2;
  private static final int D = 8;
  private static final int V = 64;
  private static final int N = 128;

  private static final int RUNS_OF_A_BOARD = 50;

  private static Board board;
  private static int runs = 0;

  public static void main(String[] args) {
    for (int a = 0; a < 256; a++) {
      for (int b = 0; b < 256; b++) {
        for (int c = 0; c < 2; c++) {
          check("ADC", 105, a, b, c, 0, binarySum(a, b, c));
          check("ADC with D", 105, a, b, c, 1, decimalSum(a, b, c));
          check("SBC", 233, a, b, c, 0, binarySum(a, 255 - b, c));
          check("SBC with D", 233, a, b, c, 1, binarySum(a, 255 - b, c));
        }
        check("CMP", 201, a, b, 0, 0, compared(a, b));
      }
    }
    realDecimals();
    Bench.done();
  }

  /** A and the flags but I and D, as 256 * flags + A. */
  private static int run(int code, int a, int b, int c, int d) {
    if (runs % RUNS_OF_A_BOARD == 0) {
      board = new Board();
    }
    runs++;
    Bench.restart(board, Bench.START, c == 1 ? 56 : 24, d == 1 ? 248 : 216, 169, a, code, b);
    board.run(8);
    return 256 * (board.register(4) & ~(4 | D)) + board.register(0);
  }

  private static void check(String name, int code, int a, int b, int c, int d, int want) {
    int got = run(code, a, b, c, d);
    if (got != want) {
      Bench.due(name + " " + a + ", " + b + ", C " + c, got, want);
    }
  }

  private static int binarySum(int a, int b, int c) {
    int sum = a + b + c;
    int signed = (byte) a + (byte) b + c;
    int flags = (sum > 255 ? C : 0) + (signed < -128 || signed > 127 ? V : 0)
        + (sum % 256 == 0 ? Z : 0) + (sum % 256 > 127 ? N : 0);
    return 256 * flags + sum % 256;
  }

  /** Z, N and V as in binary; the digits as the document tells. */
  private static int decimalSum(int a, int b, int c) {
    int low = a % 16 + b % 16 + c;
    low = low > 9 ? low + 6 : low;
    int high = a / 16 + b / 16 + (low > 15 ? 1 : 0);
    high = high > 9 ? high + 6 : high;
    int flags = binarySum(a, b, c) / 256 & ~C;
    return 256 * (flags + (high > 15 ? C : 0)) + 16 * (high % 16) + low % 16;
  }

  private static int compared(int a, int b) {
    int rest = Math.floorMod(a - b, 256);
    int flags = (a >= b ? C : 0) + (rest == 0 ? Z : 0) + (rest > 127 ? N : 0);
    return 256 * flags + a;
  }

  private static void realDecimals() {
    for (int one = 0; one < 100; one++) {
      for (int other = 0; other < 100; other++) {
        int got = run(105, one / 10 * 16 + one % 10, other / 10 * 16 + other % 10, 1, 1);
        int sum = one + other + 1;
        Bench.due("decimal " + one + " + " + other + " + 1", got % 256, sum / 10 % 10 * 16 + sum % 10);
        Bench.due("decimal carry " + one + " + " + other + " + 1", got / 256 & C, sum / 100);
      }
    }
  }
}
