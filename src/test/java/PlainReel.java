import java.util.ArrayList;
import java.util.List;

/**
 * The document written down once more, word by word and without any saving of work: the class is
 * held against it. It shares nothing with the class; its packets are texts of bits, and its viewer
 * reads nothing but them.
 */
final class PlainReel {
  static final class Refused extends RuntimeException {
    private static final long serialVersionUID = 1L;
    final String name;

    Refused(String name) {
      super(name);
      this.name = name;
    }
  }

  static final class Block {
    int kind;
    int vx;
    int vy;
    int ex;
    int ey;
    int price;
    int[][] levels = new int[4][16];

    boolean hasVector() {
      return kind <= 1;
    }

    int count() {
      int n = 0;
      for (int[] row : levels) {
        for (int level : row) {
          n += level != 0 ? 1 : 0;
        }
      }
      return n;
    }
  }

  static final class Shot {
    int number;
    boolean isKey;
    int q;
    boolean smooth;
    int[][] source;
    int[][] result;
    Block[] blocks = new Block[12];
    String[] bits = new String[3];
    boolean[] got = new boolean[3];

    int bytes(int band) {
      return (bits[band].length() + 7) / 8;
    }

    int bytes() {
      return bytes(0) + bytes(1) + bytes(2);
    }

    int byteAt(int band, int place) {
      StringBuilder padded = new StringBuilder(bits[band]);
      while (padded.length() % 8 != 0) {
        padded.append('0');
      }
      return Integer.parseInt(padded.substring(8 * place, 8 * place + 8), 2);
    }

    int kinds(int kind) {
      int n = 0;
      for (Block block : blocks) {
        n += block.kind == kind ? 1 : 0;
      }
      return n;
    }

    int error() {
      int sum = 0;
      for (int y = 0; y < 24; y++) {
        for (int x = 0; x < 32; x++) {
          sum += (source[y][x] - result[y][x]) * (source[y][x] - result[y][x]);
        }
      }
      return sum;
    }
  }

  static final int[][] W = {{1, 1, 1, 1}, {1, 1, -1, -1}, {1, -1, -1, 1}, {1, -1, 1, -1}};
  static final String[] ORDER = {
    "00", "01", "10", "20", "11", "02", "03", "12", "21", "30", "31", "22", "13", "23", "32", "33"
  };

  int[][] canvas = new int[24][32];
  List<Shot> shots = new ArrayList<>();
  int q = 8;
  int target = 0;
  int interval = 12;
  boolean smooth = true;
  boolean asked = false;
  int shown = 0;
  int[][] screen = grey(128);

  static int[][] grey(int grey) {
    int[][] made = new int[24][32];
    for (int[] line : made) {
      java.util.Arrays.fill(line, grey);
    }
    return made;
  }

  static int clip(int a) {
    return a < 0 ? 0 : a > 255 ? 255 : a;
  }

  static int at(int[][] picture, int x, int y) {
    int nearX = x < 0 ? 0 : x > 31 ? 31 : x;
    int nearY = y < 0 ? 0 : y > 23 ? 23 : y;
    return picture[nearY][nearX];
  }

  static int[][] copy(int[][] picture) {
    int[][] made = new int[24][];
    for (int y = 0; y < 24; y++) {
      made[y] = picture[y].clone();
    }
    return made;
  }

  static void argument(boolean holds) {
    if (!holds) {
      throw new Refused("IllegalArgumentException");
    }
  }

  static void index(int place, int length) {
    if (place < 0 || place >= length) {
      throw new Refused("IndexOutOfBoundsException");
    }
  }

  static void state(boolean holds) {
    if (!holds) {
      throw new Refused("IllegalStateException");
    }
  }

  // ---- the canvas

  int fill(int grey) {
    argument(grey >= 0 && grey <= 255);
    int n = 0;
    for (int y = 0; y < 24; y++) {
      for (int x = 0; x < 32; x++) {
        if (canvas[y][x] != grey) {
          n++;
        }
      }
    }
    canvas = grey(grey);
    return n;
  }

  int box(int x, int y, int wide, int high, int grey) {
    argument(x >= -32 && x <= 32 && y >= -32 && y <= 32);
    argument(wide >= 1 && wide <= 32 && high >= 1 && high <= 32 && grey >= 0 && grey <= 255);
    int n = 0;
    for (int b = 0; b < 24; b++) {
      for (int a = 0; a < 32; a++) {
        if (a >= x && a <= x + wide - 1 && b >= y && b <= y + high - 1) {
          canvas[b][a] = grey;
          n++;
        }
      }
    }
    return n;
  }

  int ramp(int base, int across, int down) {
    argument(Math.abs((long) base) <= 255);
    argument(Math.abs((long) across) <= 80 && Math.abs((long) down) <= 80);
    int sum = 0;
    for (int y = 0; y < 24; y++) {
      for (int x = 0; x < 32; x++) {
        canvas[y][x] = clip(canvas[y][x] + base + Math.floorDiv(across * x + down * y, 8));
        sum += canvas[y][x];
      }
    }
    return sum;
  }

  int noise(int seed, int strength) {
    argument(seed >= 0 && seed <= 65535 && strength >= 0 && strength <= 60);
    int r = seed;
    for (int y = 0; y < 24; y++) {
      for (int x = 0; x < 32; x++) {
        r = Math.floorMod(r * 1103 + 12345, 65536);
        canvas[y][x] = clip(canvas[y][x] + (r / 16) % (2 * strength + 1) - strength);
      }
    }
    return r;
  }

  int shift(int dx, int dy) {
    argument(dx >= -16 && dx <= 16 && dy >= -16 && dy <= 16);
    int[][] old = copy(canvas);
    int n = 0;
    for (int y = 0; y < 24; y++) {
      for (int x = 0; x < 32; x++) {
        canvas[y][x] = at(old, x - dx, y - dy);
        n += canvas[y][x] != old[y][x] ? 1 : 0;
      }
    }
    return n;
  }

  int canvasAt(int x, int y) {
    index(x, 32);
    index(y, 24);
    return canvas[y][x];
  }

  // ---- coding

  int setStep(int to) {
    argument(to >= 1 && to <= 60);
    int old = q;
    q = to;
    return old;
  }

  int setTarget(int to) {
    argument(to >= 0 && to <= 400);
    int old = target;
    target = to;
    return old;
  }

  int setInterval(int to) {
    argument(to >= 1 && to <= 24);
    int old = interval;
    interval = to;
    return old;
  }

  boolean setSmoothing(boolean to) {
    boolean old = smooth;
    smooth = to;
    return old;
  }

  boolean due() {
    if (shots.isEmpty() || asked) {
      return true;
    }
    if (shots.size() < interval - 1) {
      return false;
    }
    for (int back = 1; back <= interval - 1; back++) {
      if (shots.get(shots.size() - back).isKey) {
        return false;
      }
    }
    return true;
  }

  boolean askKey() {
    boolean was = due();
    asked = true;
    return was;
  }

  int code() {
    state(shots.size() < 24);
    Shot shot = coded(q);
    shots.add(shot);
    asked = false;
    if (target != 0) {
      int s = shot.bytes();
      int g = shot.isKey ? 3 * target : target;
      if (s * 4 > g * 5) {
        q = Math.min(60, q + 1 + q / 4);
      } else if (s * 4 < g * 3) {
        q = Math.max(1, q - 1);
      }
    }
    return shot.bytes();
  }

  Shot coded(int step) {
    Shot shot = codedAs(due(), step);
    if (!shot.isKey && shot.kinds(2) + shot.kinds(3) + shot.kinds(4) > 8) {
      shot = codedAs(true, step);
    }
    return shot;
  }

  Shot codedAs(boolean isKey, int step) {
    Shot shot = new Shot();
    shot.number = shots.size();
    shot.isKey = isKey;
    shot.q = step;
    shot.smooth = smooth;
    shot.source = copy(canvas);
    shot.result = grey(0);
    int[][] ahead = shots.isEmpty() ? null : shots.get(shots.size() - 1).result;
    for (int b = 0; b < 12; b++) {
      shot.blocks[b] = codeBlock(shot, ahead, b);
    }
    if (smooth) {
      smoothen(shot.result, step);
    }
    for (int band = 0; band < 3; band++) {
      shot.bits[band] = packet(shot, band);
    }
    return shot;
  }

  static int[][] foretell(int[][] made, int[][] ahead, int b, int kind, int vx, int vy) {
    int x0 = b % 4 * 8;
    int y0 = b / 4 * 8;
    int[][] f = new int[8][8];
    for (int j = 0; j < 8; j++) {
      for (int i = 0; i < 8; i++) {
        int x = x0 + i;
        int y = y0 + j;
        if (kind <= 1) {
          int bigX = 2 * x + vx;
          int bigY = 2 * y + vy;
          int a = Math.floorDiv(bigX, 2);
          int down = Math.floorDiv(bigY, 2);
          int c = Math.floorMod(bigX, 2) == 1 ? a + 1 : a;
          int d = Math.floorMod(bigY, 2) == 1 ? down + 1 : down;
          f[j][i] =
              (at(ahead, a, down) + at(ahead, c, down) + at(ahead, a, d) + at(ahead, c, d) + 2) / 4;
        } else if (kind == 2) {
          int sum = 4;
          for (int k = 0; k < 8 && x0 > 0; k++) {
            sum += made[y0 + k][x0 - 1];
          }
          f[j][i] = x0 == 0 ? 128 : sum / 8;
        } else if (kind == 3) {
          f[j][i] = made[y][x0 - 1];
        } else {
          int l = made[y][x0 - 1];
          int m = made[y][x0 - 5];
          f[j][i] = clip(l + Math.floorDiv((l - m) * (i + 1), 4));
        }
      }
    }
    return f;
  }

  int difference(int[][] f, int b) {
    int sum = 0;
    for (int j = 0; j < 8; j++) {
      for (int i = 0; i < 8; i++) {
        sum += Math.abs(canvas[b / 4 * 8 + j][b % 4 * 8 + i] - f[j][i]);
      }
    }
    return sum;
  }

  Block codeBlock(Shot shot, int[][] ahead, int b) {
    Block block = new Block();
    if (b % 4 != 0 && shot.blocks[b - 1].hasVector()) {
      block.ex = shot.blocks[b - 1].vx;
      block.ey = shot.blocks[b - 1].vy;
    }
    int step = shot.q;
    List<int[]> offers = new ArrayList<>();
    if (!shot.isKey) {
      offers.add(bestVector(shot, ahead, b, block));
    }
    for (int kind = 2; kind <= (b % 4 == 0 ? 2 : 4); kind++) {
      int[][] f = foretell(shot.result, ahead, b, kind, 0, 0);
      offers.add(new int[] {difference(f, b) + (kind == 4 ? 2 : 1) * step, kind, 0, 0});
    }
    int[] best = offers.get(0);
    for (int[] offer : offers) {
      best = offer[0] < best[0] ? offer : best;
    }
    block.price = best[0];
    block.kind = best[1];
    block.vx = best[2];
    block.vy = best[3];
    int[][] f = foretell(shot.result, ahead, b, block.kind, block.vx, block.vy);
    for (int quarter = 0; quarter < 4; quarter++) {
      for (int place = 0; place < 16; place++) {
        int u = ORDER[place].charAt(0) - '0';
        int v = ORDER[place].charAt(1) - '0';
        int sum = 0;
        for (int i = 0; i < 4; i++) {
          for (int j = 0; j < 4; j++) {
            int line = quarter / 2 * 4 + i;
            int column = quarter % 2 * 4 + j;
            int n = canvas[b / 4 * 8 + line][b % 4 * 8 + column] - f[line][column];
            sum += n * W[u][i] * W[v][j];
          }
        }
        int level = (Math.abs(sum) + (4 * step) / 3) / (4 * step);
        block.levels[quarter][place] = sum < 0 ? -level : level;
      }
    }
    if (block.kind == 1 && block.vx == block.ex && block.vy == block.ey && block.count() == 0) {
      block.kind = 0;
    }
    lay(shot.result, f, block, b, step);
    return block;
  }

  int[] bestVector(Shot shot, int[][] ahead, int b, Block block) {
    int[] best = null;
    for (int vy = -6; vy <= 6; vy += 2) {
      for (int vx = -6; vx <= 6; vx += 2) {
        int[] offer = offer(shot, ahead, b, block, vx, vy);
        best = best == null || offer[0] < best[0] ? offer : best;
      }
    }
    int[] nearest = null;
    for (int k = -1; k <= 1; k++) {
      for (int i = -1; i <= 1; i++) {
        int vx = best[2] + i;
        int vy = best[3] + k;
        if ((i != 0 || k != 0) && Math.abs(vx) <= 6 && Math.abs(vy) <= 6) {
          int[] offer = offer(shot, ahead, b, block, vx, vy);
          nearest = nearest == null || offer[0] < nearest[0] ? offer : nearest;
        }
      }
    }
    return nearest[0] < best[0] ? nearest : best;
  }

  int[] offer(Shot shot, int[][] ahead, int b, Block block, int vx, int vy) {
    int[][] f = foretell(shot.result, ahead, b, 1, vx, vy);
    int ways = Math.abs(vx - block.ex) + Math.abs(vy - block.ey);
    return new int[] {difference(f, b) + shot.q * (2 + ways), 1, vx, vy};
  }

  static void lay(int[][] made, int[][] f, Block block, int b, int step) {
    for (int line = 0; line < 8; line++) {
      for (int column = 0; column < 8; column++) {
        int[] levels = block.levels[line / 4 * 2 + column / 4];
        int sum = 8;
        for (int place = 0; place < 16; place++) {
          int u = ORDER[place].charAt(0) - '0';
          int v = ORDER[place].charAt(1) - '0';
          sum += levels[place] * 4 * step * W[u][line % 4] * W[v][column % 4];
        }
        int grey = clip(f[line][column] + Math.floorDiv(sum, 16));
        made[b / 4 * 8 + line][b % 4 * 8 + column] = grey;
      }
    }
  }

  static void smoothen(int[][] g, int step) {
    for (int x = 8; x <= 24; x += 8) {
      for (int y = 0; y < 24; y++) {
        int[] pair = smoothed(g[y][x - 2], g[y][x - 1], g[y][x], g[y][x + 1], step);
        g[y][x - 1] = pair[0];
        g[y][x] = pair[1];
      }
    }
    for (int y = 8; y <= 16; y += 8) {
      for (int x = 0; x < 32; x++) {
        int[] pair = smoothed(g[y - 2][x], g[y - 1][x], g[y][x], g[y + 1][x], step);
        g[y - 1][x] = pair[0];
        g[y][x] = pair[1];
      }
    }
  }

  static int[] smoothed(int p, int r, int s, int t, int step) {
    if (Math.abs(s - r) > 2 * (step + 2)) {
      return new int[] {r, s};
    }
    if (Math.abs(r - p) > step + 2 || Math.abs(t - s) > step + 2) {
      return new int[] {r, s};
    }
    int e = (s - r) / 4;
    return new int[] {r + e, s - e};
  }

  static String binary(int number, int length) {
    StringBuilder text = new StringBuilder(Integer.toBinaryString(number));
    while (text.length() < length) {
      text.insert(0, '0');
    }
    return length == 0 ? "" : text.toString();
  }

  static int f(int a) {
    return a > 0 ? 2 * a - 1 : -2 * a;
  }

  static String golomb(int a) {
    String bits = Integer.toBinaryString(f(a) + 1);
    return "0".repeat(bits.length() - 1) + bits;
  }

  static String inContext(int v, int[] means, int context) {
    int m = means[context];
    int k = 0;
    while (4 * (1 << k) < m) {
      k++;
    }
    means[context] = m - m / 4 + v;
    if (v >> k >= 12) {
      return "1".repeat(12) + binary(v, 12);
    }
    return "1".repeat(v >> k) + "0" + binary(v & ((1 << k) - 1), k);
  }

  static String packet(Shot shot, int band) {
    StringBuilder bits = new StringBuilder();
    bits.append(binary(shot.number, 5)).append(shot.isKey ? '1' : '0');
    bits.append(binary(shot.q, 6)).append(shot.smooth ? '1' : '0');
    List<Integer> row = new ArrayList<>(List.of(0, 1, 2, 3, 4));
    int[] means = {0, 4, 4, 4};
    for (int b = 4 * band; b < 4 * band + 4; b++) {
      Block block = shot.blocks[b];
      int place = row.indexOf(block.kind);
      bits.append("1".repeat(place)).append(place == 4 ? "" : "0");
      row.remove(place);
      row.add(0, block.kind);
      if (block.kind == 1) {
        bits.append(golomb(block.vx - block.ex)).append(golomb(block.vy - block.ey));
      }
      for (int quarter = 0; quarter < 4 && block.kind != 0; quarter++) {
        int count = 0;
        for (int place2 = 0; place2 < 16; place2++) {
          count = block.levels[quarter][place2] != 0 ? place2 + 1 : count;
        }
        bits.append(inContext(count, means, 1));
        for (int place2 = 0; place2 < count; place2++) {
          bits.append(inContext(f(block.levels[quarter][place2]), means, place2 == 0 ? 3 : 2));
        }
      }
    }
    return bits.toString();
  }

  // ---- pictures, asked

  Shot shot(int picture) {
    index(picture, shots.size());
    return shots.get(picture);
  }

  Block block(int picture, int block) {
    Shot shot = shot(picture);
    index(block, 12);
    return shot.blocks[block];
  }

  int levelAt(int picture, int block, int quarter, int place) {
    Block asked = block(picture, block);
    index(quarter, 4);
    index(place, 16);
    return asked.levels[quarter][place];
  }

  int resultAt(int picture, int x, int y) {
    Shot shot = shot(picture);
    index(x, 32);
    index(y, 24);
    return shot.result[y][x];
  }

  int bytes(int picture, int band) {
    Shot shot = shot(picture);
    index(band, 3);
    return shot.bytes(band);
  }

  int bits(int picture, int band) {
    Shot shot = shot(picture);
    index(band, 3);
    return shot.bits[band].length();
  }

  int byteAt(int picture, int band, int place) {
    index(place, bytes(picture, band));
    return shot(picture).byteAt(band, place);
  }

  int kinds(int picture, int kind) {
    Shot shot = shot(picture);
    index(kind, 5);
    return shot.kinds(kind);
  }

  // ---- the viewer

  boolean hand(int picture, int band) {
    Shot shot = shot(picture);
    index(band, 3);
    boolean gets = picture >= shown && !shot.got[band];
    shot.got[band] |= gets;
    return gets;
  }

  int handAll(int picture) {
    int n = 0;
    shot(picture);
    for (int band = 0; band < 3; band++) {
      n += hand(picture, band) ? 1 : 0;
    }
    return n;
  }

  int[][] next() {
    Shot shot = shots.get(shown);
    int[][] made = grey(0);
    Block[] read = new Block[12];
    PacketReader header = null;
    for (int band = 0; band < 3; band++) {
      PacketReader reader = shot.got[band] ? new PacketReader(shot.bits[band]) : null;
      header = reader == null ? header : reader;
      for (int b = 4 * band; b < 4 * band + 4; b++) {
        if (reader != null) {
          read[b] = reader.blocks[b % 4];
          int[][] f = foretell(made, screen, b, read[b].kind, read[b].vx, read[b].vy);
          lay(made, f, read[b], b, reader.q);
        } else {
          Block above = b >= 4 ? read[b - 4] : null;
          boolean moves = above != null && above.hasVector();
          Block plain = new Block();
          int[][] f = foretell(made, screen, b, 1, moves ? above.vx : 0, moves ? above.vy : 0);
          lay(made, f, plain, b, 1);
        }
      }
    }
    if (header != null && header.smooth) {
      smoothen(made, header.q);
    }
    return made;
  }

  int show() {
    state(shown < shots.size());
    screen = next();
    int n = 0;
    for (boolean got : shots.get(shown).got) {
      n += got ? 0 : 1;
    }
    shown++;
    return n;
  }

  int shownAt(int x, int y) {
    index(x, 32);
    index(y, 24);
    return screen[y][x];
  }

  static int apart(int[][] some, int[][] others) {
    int sum = 0;
    for (int y = 0; y < 24; y++) {
      for (int x = 0; x < 32; x++) {
        sum += Math.abs(some[y][x] - others[y][x]);
      }
    }
    return sum;
  }

  int drift() {
    return shown == 0 ? 0 : apart(screen, shots.get(shown - 1).result);
  }

  boolean hasGot(int picture, int band) {
    Shot shot = shot(picture);
    index(band, 3);
    return shot.got[band];
  }

  // ---- what would be

  int bytesWith(int step) {
    argument(step >= 1 && step <= 60);
    state(shots.size() < 24);
    return coded(step).bytes();
  }

  int priceOf(int block) {
    index(block, 12);
    state(shots.size() < 24);
    return coded(q).blocks[block].price;
  }

  int driftNext() {
    return shown == shots.size() ? -1 : apart(next(), shots.get(shown).result);
  }

  int bytesOfAll() {
    int sum = 0;
    for (Shot shot : shots) {
      sum += shot.bytes();
    }
    return sum;
  }

  double meanError() {
    double sum = 0;
    for (Shot shot : shots) {
      sum += shot.error();
    }
    return shots.isEmpty() ? 0 : sum / shots.size();
  }

  long digest() {
    List<Long> numbers = new ArrayList<>();
    add(numbers, shots.size(), q, shown, drift(), bytesOfAll());
    for (Shot shot : shots) {
      add(numbers, shot.isKey ? 1 : 0, shot.q, shot.error());
      for (Block block : shot.blocks) {
        boolean moves = block.hasVector();
        add(numbers, block.kind, moves ? block.vx : 0, moves ? block.vy : 0, block.count());
      }
      for (int band = 0; band < 3; band++) {
        add(numbers, shot.bytes(band), shot.bits[band].length(), shot.got[band] ? 1 : 0);
        for (int place = 0; place < shot.bytes(band); place++) {
          add(numbers, shot.byteAt(band, place));
        }
      }
    }
    addAll(numbers, canvas);
    if (!shots.isEmpty()) {
      addAll(numbers, shots.get(shots.size() - 1).result);
    }
    addAll(numbers, screen);
    long d = 58019;
    for (long number : numbers) {
      d = d * 31 + number;
    }
    return d;
  }

  private static void add(List<Long> numbers, int... more) {
    for (int number : more) {
      numbers.add((long) number);
    }
  }

  private static void addAll(List<Long> numbers, int[][] picture) {
    for (int[] line : picture) {
      add(numbers, line);
    }
  }
}
