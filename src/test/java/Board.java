import java.util.ArrayList;
import java.util.List;

/**
 * A HomeBoard that is never called more than 512 times, as the document promises nothing behind that:
 * then a new one, to which all calls that change something are made again, takes its place.
 */
final class Board {
  private static final int PROMISED_CALLS = 512;
  private static final int BURN = 0;
  private static final int POKE = 1;
  private static final int POWER = 2;
  private static final int PRESS = 3;
  private static final int RUN = 4;

  private final List<int[]> changes = new ArrayList<>();
  private HomeBoard board = new HomeBoard();
  private int calls;

  boolean burn(int rom, int at, int value) {
    return changed(BURN, rom, at, value) == 1;
  }

  boolean poke(int at, int value) {
    return changed(POKE, at, value) == 1;
  }

  void power() {
    changed(POWER);
  }

  boolean press(int r, int keys) {
    return changed(PRESS, r, keys) == 1;
  }

  int run(int n) {
    return changed(RUN, n);
  }

  int ram(int at) {
    return asked().ram(at);
  }

  int look(int at) {
    return asked().look(at);
  }

  int register(int which) {
    return asked().register(which);
  }

  boolean jammed() {
    return asked().jammed();
  }

  int beam() {
    return asked().beam();
  }

  int point(int line, int x) {
    return asked().point(line, x);
  }

  int access() {
    return asked().access();
  }

  int cycles() {
    return asked().cycles();
  }

  int stolen() {
    return asked().stolen();
  }

  int interrupts() {
    return asked().interrupts();
  }

  private HomeBoard asked() {
    makeRoom();
    calls++;
    return board;
  }

  private int changed(int... change) {
    makeRoom();
    if (changes.size() + 1 >= PROMISED_CALLS) {
      throw new IllegalStateException("a test makes too many calls of one board");
    }
    changes.add(change);
    return make(change);
  }

  private void makeRoom() {
    if (calls < PROMISED_CALLS) {
      return;
    }
    board = new HomeBoard();
    calls = 0;
    for (int[] change : changes) {
      make(change);
    }
  }

  private int make(int[] change) {
    calls++;
    switch (change[0]) {
      case BURN: return board.burn(change[1], change[2], change[3]) ? 1 : 0;
      case POKE: return board.poke(change[1], change[2]) ? 1 : 0;
      case POWER: board.power(); return 0;
      case PRESS: return board.press(change[1], change[2]) ? 1 : 0;
      default: return board.run(change[1]);
    }
  }
}
