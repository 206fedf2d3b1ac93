import java.util.ArrayList;
import java.util.List;

/** Reads a packet by its bits alone: what is written must be enough to make the band again. */
final class PacketReader {
  final int number;
  final boolean isKey;
  final int q;
  final boolean smooth;
  final PlainReel.Block[] blocks = new PlainReel.Block[4];
  private final String bits;
  private final int[] means = {0, 4, 4, 4};
  int at = 0;

  PacketReader(String bits) {
    this.bits = bits;
    number = take(5);
    isKey = take(1) == 1;
    q = take(6);
    smooth = take(1) == 1;
    List<Integer> row = new ArrayList<>(List.of(0, 1, 2, 3, 4));
    int ex = 0;
    int ey = 0;
    for (int b = 0; b < 4; b++) {
      PlainReel.Block block = new PlainReel.Block();
      int place = 0;
      while (place < 4 && take(1) == 1) {
        place++;
      }
      block.kind = row.remove(place);
      row.add(0, block.kind);
      block.ex = ex;
      block.ey = ey;
      block.vx = block.kind <= 1 ? ex : 0;
      block.vy = block.kind <= 1 ? ey : 0;
      if (block.kind == 1) {
        block.vx += unfolded(golomb());
        block.vy += unfolded(golomb());
      }
      ex = block.vx;
      ey = block.vy;
      for (int quarter = 0; quarter < 4 && block.kind != 0; quarter++) {
        int count = inContext(1);
        for (int level = 0; level < count; level++) {
          block.levels[quarter][level] = unfolded(inContext(level == 0 ? 3 : 2));
        }
      }
      blocks[b] = block;
    }
  }

  private int take(int length) {
    int number = 0;
    for (int i = 0; i < length; i++) {
      number = 2 * number + bits.charAt(at++) - '0';
    }
    return number;
  }

  private int golomb() {
    int zeros = 0;
    while (take(1) == 0) {
      zeros++;
    }
    return (1 << zeros) + take(zeros) - 1;
  }

  private static int unfolded(int f) {
    return f % 2 == 1 ? (f + 1) / 2 : -f / 2;
  }

  private int inContext(int context) {
    int m = means[context];
    int k = 0;
    while (4 << k < m) {
      k++;
    }
    int ones = 0;
    while (ones < 12 && take(1) == 1) {
      ones++;
    }
    int v = ones == 12 ? take(12) : (ones << k) + take(k);
    means[context] = m - m / 4 + v;
    return v;
  }
}
