/** Promise 4 (and 10): what power() sets anew, and what it leaves. */
public final class PowerTest {
  public static void main(String[] args) {
    startWord();
    byTheMapOfNow();
    processorIsNew();
    inTheMiddleOfAnInstruction();
    allElseStays();
    Bench.done();
  }

  private static void startWord() {
    Board b = new Board();
    b.burn(2, 1020, 52);
    b.burn(2, 1021, 254);
    b.power();
    Bench.due("P of 16 bits", b.register(5), 65076);
    Bench.due("jammed", b.jammed(), false);
    Bench.due("access", b.access(), -1);
    Bench.due("cycles", b.cycles(), 0);
    b.run(1);
    Bench.due("first access, modulo 8192", b.access(), 65076 % 8192);
    Bench.due("code 0 jams", b.jammed(), true);
    Bench.due("P grew", b.register(5), 65077);
  }

  private static void byTheMapOfNow() {
    Board b = Bench.board(169, 5, 133, 1, 2);
    b.poke(8188, 17);
    b.poke(8189, 3);
    b.run(6);
    Bench.due("port", b.register(6), 5);
    b.power();
    Bench.due("P from RAM, H not set", b.register(5), 17 + 3 * 256);
    Bench.due("port stays", b.register(6), 5);
  }

  private static void processorIsNew() {
    Board b = Bench.board(169, 200, 162, 201, 160, 202, 56, 248, 88, 72, 2);
    b.run(16);
    Bench.due("before", Bench.state(b), "A200 X201 Y202 S254 F137 P1035");
    Bench.due("jammed before", b.jammed(), true);
    b.power();
    Bench.due("behind", Bench.state(b), "A0 X0 Y0 S255 F4 P1024");
    Bench.due("jammed behind", b.jammed(), false);
    Bench.due("access behind", b.access(), -1);
    Bench.due("cycles behind", b.cycles(), 16);
    Bench.due("beam behind", b.beam(), 16);
  }

  private static void inTheMiddleOfAnInstruction() {
    Board b = Bench.board(141, 0, 6);
    b.run(3);
    b.power();
    Bench.due("begins anew", Bench.trace(b, 4), "r1024 r1025 r1026 w1536");
    b.run(1);
    Bench.due("jams behind it", b.jammed(), true);
  }

  private static void allElseStays() {
    Board b = new Board();
    b.press(3, 9);
    Bench.write(b, 6658, 11);
    Bench.write(b, 6659, 12);
    Bench.write(b, 6662, 13);
    Bench.write(b, 6661, 1);
    Bench.write(b, 6656, 22);
    Bench.write(b, 6720, 240);
    Bench.write(b, 6724, 50);
    Bench.write(b, 6725, 60);
    Bench.write(b, 6784, 6);
    b.poke(700, 44);
    int beam = b.beam();
    int cycles = b.cycles();
    b.power();
    int[] at = {6656, 6658, 6659, 6660, 6661, 6662, 6720, 6721, 6724, 6725, 6784, 700};
    int[] want = {22, 11, 12, 129, 1, 13, 240, 246, 50, 60, 6, 44};
    for (int i = 0; i < at.length; i++) {
      Bench.due("look(" + at[i] + ") behind power()", b.look(at[i]), want[i]);
    }
    Bench.due("beam", b.beam(), beam);
    Bench.due("cycles", b.cycles(), cycles);
  }
}
