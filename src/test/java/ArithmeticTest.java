/** "Terms", INSTRUCTIONS: ADC, SBC and CMP of every pair of bytes, with and without C and D (promises 6 and 9). */
public final class ArithmeticTest {
  private static final int C = 1;
  private static final int Z = 2;
  private static final int D = 8;
  private static final int V = 64;
  private static final int N = 128;

  private static final int RUNS_OF_A_BOARD = 50;

  private static Board board;
  private static int runs = 0;

  public static void main(String[] args) {
    edgesOfAdc();
    edgesOfDecimalAdc();
    edgesOfSbc();
    edgesOfCmp();
    Bench.part("Terms, INSTRUCTIONS, ARITHMETIC: every pair of bytes");
    for (int a = 0; a < 256; a++) {
      for (int b = 0; b < 256; b++) {
        for (int c = 0; c < 2; c++) {
          check("ADC", 105, a, b, c, 0, binarySum(a, b, c));
          check("ADC with D", 105, a, b, c, 1, decimalSum(a, b, c));
          check("SBC", 233, a, b, c, 0, binarySum(a, 255 - b, c));
          check("SBC with D", 233, a, b, c, 1, binarySum(a, 255 - b, c));
        }
        check("CMP", 201, a, b, 0, 0, compared(a, b));
      }
    }
    realDecimals();
    Bench.done();
  }

  /** Each row: A, operand, C; the new A and the flags but I and D. */
  private static void rows(String name, int code, int decimal, int[][] rows) {
    for (int[] row : rows) {
      check(name, code, row[0], row[1], row[2], decimal, 256 * row[4] + row[3]);
    }
  }

  private static void edgesOfAdc() {
    Bench.part("Terms, INSTRUCTIONS: 'A is the sum modulo 256, C if it is above 255; V if bit 7 .. are alike'");
    rows("ADC", 105, 0, new int[][] {
      {254, 1, 0, 255, N}, {255, 1, 0, 0, C + Z}, {255, 0, 1, 0, C + Z}, {254, 0, 1, 255, N},
      {255, 255, 1, 255, C + N}, {0, 0, 0, 0, Z}, {0, 0, 1, 1, 0}, {127, 0, 0, 127, 0},
      {127, 0, 1, 128, V + N}, {127, 1, 0, 128, V + N}, {64, 64, 0, 128, V + N}, {64, 63, 0, 127, 0},
      {128, 128, 0, 0, C + Z + V}, {128, 127, 1, 0, C + Z}, {128, 255, 0, 127, C + V}, {128, 255, 1, 128, C + N},
      {128, 0, 0, 128, N}, {192, 192, 0, 128, C + N}, {192, 191, 0, 127, C + V},
    });
  }

  private static void edgesOfDecimalAdc() {
    Bench.part("Terms, INSTRUCTIONS: 'when D is set, A and C are then instead ..'");
    rows("low is 9: not above", 105, 1, new int[][] {{0x09, 0, 0, 0x09, 0}, {0x08, 0, 1, 0x09, 0}});
    rows("low is above 9", 105, 1, new int[][] {{0x0a, 0, 0, 0x10, 0}, {0x09, 0, 1, 0x10, 0}});
    rows("low is far above 15", 105, 1, new int[][] {{0x0f, 0x0f, 1, 0x15, 0}});
    rows("high is 9: not above", 105, 1, new int[][] {{0x90, 0, 0, 0x90, N}, {0x89, 0x09, 1, 0x99, N}});
    rows("high is above 9", 105, 1, new int[][] {{0xa0, 0, 0, 0, N + C}, {0x99, 0, 1, 0, N + C}});
    rows("high is far above 15", 105, 1, new int[][] {{0xf0, 0xf0, 0, 0x40, N + C}, {0xff, 0xff, 1, 0x55, N + C}});
    rows("Z, N and V by the binary sum", 105, 1, new int[][] {
      {0x50, 0x50, 0, 0, V + N + C}, {0x80, 0x80, 0, 0x60, V + Z + C}, {0x99, 0x67, 0, 0x66, C + Z},
      {0x7f, 0, 1, 0x86, V + N},
    });
  }

  private static void edgesOfSbc() {
    Bench.part("Terms, INSTRUCTIONS: 'SBC is ADC of 255 - operand (D is not looked at)'");
    for (int d = 0; d < 2; d++) {
      rows("SBC, D " + d, 233, d, new int[][] {
        {0, 0, 1, 0, C + Z}, {0, 0, 0, 255, N}, {0, 1, 1, 255, N}, {1, 1, 1, 0, C + Z}, {1, 0, 0, 0, C + Z},
        {255, 255, 1, 0, C + Z}, {0, 255, 1, 1, 0}, {128, 1, 1, 127, C + V}, {127, 255, 1, 128, V + N},
        {128, 0, 0, 127, C + V}, {0x10, 0x01, 1, 0x0f, C},
      });
    }
  }

  private static void edgesOfCmp() {
    Bench.part("Terms, INSTRUCTIONS: 'CMP sets Z and N by A - operand modulo 256, C if A is not less'");
    rows("CMP", 201, 0, new int[][] {
      {0, 0, 0, 0, C + Z}, {0, 1, 0, 0, N}, {0, 255, 0, 0, 0}, {255, 255, 1, 255, C + Z}, {255, 0, 0, 255, C + N},
      {255, 254, 0, 255, C}, {127, 128, 1, 127, N}, {128, 127, 0, 128, C}, {128, 0, 1, 128, C + N}, {0, 128, 1, 0, N},
    });
  }

  /** A and the flags but I and D, as 256 * flags + A. */
  private static int run(int code, int a, int b, int c, int d) {
    if (runs % RUNS_OF_A_BOARD == 0) {
      board = new Board();
    }
    runs++;
    Bench.restart(board, Bench.START, c == 1 ? 56 : 24, d == 1 ? 248 : 216, 169, a, code, b);
    board.run(8);
    return 256 * (board.register(4) & ~(4 | D)) + board.register(0);
  }

  private static void check(String name, int code, int a, int b, int c, int d, int want) {
    int got = run(code, a, b, c, d);
    if (got != want) {
      Bench.due(name + " " + a + ", " + b + ", C " + c, got, want);
    }
  }

  private static int binarySum(int a, int b, int c) {
    int sum = a + b + c;
    int signed = (byte) a + (byte) b + c;
    int flags = (sum > 255 ? C : 0) + (signed < -128 || signed > 127 ? V : 0)
        + (sum % 256 == 0 ? Z : 0) + (sum % 256 > 127 ? N : 0);
    return 256 * flags + sum % 256;
  }

  /** Z, N and V as in binary; the digits as the document tells. */
  private static int decimalSum(int a, int b, int c) {
    int low = a % 16 + b % 16 + c;
    low = low > 9 ? low + 6 : low;
    int high = a / 16 + b / 16 + (low > 15 ? 1 : 0);
    high = high > 9 ? high + 6 : high;
    int flags = binarySum(a, b, c) / 256 & ~C;
    return 256 * (flags + (high > 15 ? C : 0)) + 16 * (high % 16) + low % 16;
  }

  private static int compared(int a, int b) {
    int rest = Math.floorMod(a - b, 256);
    int flags = (a >= b ? C : 0) + (rest == 0 ? Z : 0) + (rest > 127 ? N : 0);
    return 256 * flags + a;
  }

  private static void realDecimals() {
    Bench.part("Terms, INSTRUCTIONS: 'when D is set': sums of true decimals");
    for (int one = 0; one < 100; one++) {
      for (int other = 0; other < 100; other++) {
        int got = run(105, one / 10 * 16 + one % 10, other / 10 * 16 + other % 10, 1, 1);
        int sum = one + other + 1;
        Bench.due("decimal " + one + " + " + other + " + 1", got % 256, sum / 10 % 10 * 16 + sum % 10);
        Bench.due("decimal carry " + one + " + " + other + " + 1", got / 256 & C, sum / 100);
      }
    }
  }
}
