import java.util.List;
import java.util.Set;

/** The edges that Terms 6 to 8 and what is said of all calls name, sentence by sentence, by hand. */
public final class PacketEdgesTest {
  private static final String LONG = "111111111111";

  private final Edges on = new Edges("PacketEdgesTest");

  private void due(String what, Object got, Object want) {
    on.due(what, got, want);
  }

  private static String bitsOf(GreyReel x, int picture, int band) {
    return firstBits(x, picture, band, x.bytes(picture, band));
  }

  private static String firstBits(GreyReel x, int picture, int band, int bytes) {
    StringBuilder bits = new StringBuilder();
    for (int place = 0; place < bytes; place++) {
      bits.append(Integer.toBinaryString(256 + x.byteAt(picture, band, place)).substring(1));
    }
    return bits.toString();
  }

  /** All bits of a packet, and how many of them count. */
  private void packet(String what, GreyReel x, int picture, int band, String bits) {
    due(what + ", bits", x.bits(picture, band), bits.length());
    String filled = bits + "0".repeat((8 - bits.length() % 8) % 8);
    due(what, bitsOf(x, picture, band), filled);
  }

  // ---- Term 6

  private void fillingBits() {
    on.sentence("Term 6", "as many 0 behind them as the last byte needs");
    boolean[] seen = new boolean[8];
    for (int seed = 0; seed < 12; seed++) {
      for (int band = 0; band < 3; band++) {
        GreyReel x = new GreyReel();
        x.noise(seed * 977, 40);
        x.code();
        int bits = x.bits(0, band);
        due("bytes of bits, " + bits, x.bytes(0, band), bits % 8 == 0 ? bits / 8 : bits / 8 + 1);
        String written = bitsOf(x, 0, band);
        due("what fills", written.substring(bits), "0".repeat(written.length() - bits));
        seen[bits % 8] = true;
      }
    }
    for (int rest = 0; rest < 8; rest++) {
      on.holds("a packet with bits in its last byte, " + rest, seen[rest]);
    }
    // Noise upon noise is black and white at last: more bytes than the picture has points.
    GreyReel dearest = Paint.exact();
    dearest.fill(128);
    for (int seed = 0; seed < 32; seed++) {
      dearest.noise(seed * 1009, 60);
    }
    on.holds("code() of black and white points", dearest.code() > 900);
    for (int band = 0; band < 3; band++) {
      int last = dearest.bytes(0, band) - 1;
      on.holds("bytes of a band of them", last > 290);
      int fill = 8 * (last + 1) - dearest.bits(0, band);
      due("what fills them", dearest.byteAt(0, band, last) & (1 << fill) - 1, 0);
    }
    due("bands with packets", dearest.handAll(0), 3);
    due("driftNext() of it", dearest.driftNext(), 0);
  }

  private void headers() {
    on.sentence("Term 6", "First 5 bits: the number of the picture; 1 bit: 1 for a KEY");
    GreyReel x = Paint.tiled();
    for (int picture = 0; picture < 24; picture++) {
      x.setStep(picture == 23 ? 60 : picture == 22 ? 1 : 4);
      x.setSmoothing(picture == 11);
      x.code();
    }
    String[] starts = {"00000" + "1" + "000100" + "0", "00001" + "0" + "000100" + "0",
        "01011" + "0" + "000100" + "1", "01100" + "1" + "000100" + "0",
        "10110" + "0" + "000001" + "0", "10111" + "0" + "111100" + "0"};
    int[] pictures = {0, 1, 11, 12, 22, 23};
    for (int i = 0; i < pictures.length; i++) {
      for (int band = 0; band < 3; band++) {
        due("the beginning of " + pictures[i] + ", " + band,
            firstBits(x, pictures[i], band, 2).substring(0, 13), starts[i]);
      }
    }
    on.sentence("Term 6", "Then the blocks of the band, in order:");
    packet("a still canvas", x, 23, 2, "10111" + "0" + "111100" + "0" + "0" + "0" + "0" + "0");
  }

  private void kindRows() {
    on.sentence("Term 6", "its kind: there is a row of kinds, at the beginning of each band 0 1 2 3 4");
    // FLAT at place 2; then TREND, at place 4; then at place 0.
    GreyReel trend = Paint.exact();
    Paint.columns(trend, 128, 128, 128, 128, 132);
    for (int at = 8; at < 32; at++) {
      trend.box(at, 0, 32, 24, 125 + at);
    }
    trend.code();
    String counted = "110" + "0" + "10" + LONG + "000000011111" + "0" + "10" + "10" + "1111";
    for (int band = 0; band < 3; band++) {
      packet("FLAT and three TRENDs, " + band, trend, 0, band,
          "00000" + "1" + "000001" + "0" + counted + "11110000" + "00000" + "00000");
    }
    // FLAT; LEFT at place 3 of 2 0 1 3 4; FLAT at place 1 of 3 2 0 1 4; FLAT at place 0.
    GreyReel left = Paint.exact();
    left.fill(128);
    for (int band = 0; band < 3; band++) {
      left.box(0, 8 * band, 16, 4, 136);
    }
    left.box(16, 0, 16, 24, 132);
    left.code();
    counted = "110" + "10" + LONG + "000000111111" + "10" + "10" + "11111" + "0" + "0";
    for (int band = 0; band < 3; band++) {
      packet("FLAT, LEFT and two FLATs, " + band, left, 0, band,
          "00000" + "1" + "000001" + "0" + counted + "11100000" + "100000" + "00000");
    }
    skipsAndMoved();
  }

  private void skipsAndMoved() {
    // SKIP at place 0, MOVED at 1, SKIP at 1 of 1 0 2 3 4, FLAT at 2 of 0 1 2 3 4.
    GreyReel x = Paint.coded(Paint.tiled());
    int grey = Paint.tile(3, 0);
    x.box(12, 0, 4, 4, grey + 1);
    int last = x.resultAt(0, 23, 0) * 4 + x.resultAt(0, 23, 7) * 4;
    x.box(24, 0, 8, 8, (last + 4) >> 3);
    x.code();
    String kinds = x.kindOf(1, 0) + " " + x.kindOf(1, 1) + " " + x.kindOf(1, 2) + " "
        + x.kindOf(1, 3);
    due("kinds of a changed band", kinds, "0 1 0 2");
    packet("SKIP, MOVED, SKIP and FLAT", x, 1, 0, "00001" + "0" + "000100" + "0" + "0"
        + "10" + "1" + "1" + "0" + "10" + "10" + "0" + "0" + "10" + "110" + "0000");
  }

  private void vectors() {
    on.sentence("Term 6", "MOVED: vx - ex, then vy - ey, as numbers");
    GreyReel x = Paint.coded(Paint.columns(Paint.exact(), Paint.PROFILE));
    int[] ways = {-6, 6, 6, -6};
    for (int block = 0; block < 4; block++) {
      int[] moved = Paint.moved(Paint.PROFILE, 32, ways[block]);
      for (int at = 8 * block; at < 8 * block + 8; at++) {
        x.box(at, 0, 1, 24, moved[at]);
      }
    }
    x.code();
    // f of -6 is 12, of 12 is 23, of -12 is 24; f + 1 is 1101, 11000, 11001.
    packet("the farthest vectors across", x, 1, 0, "00001" + "0" + "000001" + "0"
        + "10" + "0001101" + "1" + "0000" + "0" + "000011000" + "1" + "0000" + "10"
        + "10" + "000011001" + "1" + "0000");
    // f of 6 is 11, of -1 is 2, of 1 is 1, of 2 is 3.
    String[] codes = {"0001100", "0001011", "0001010", "0001001", "00111", "00101", "011", "1",
        "010", "00100", "00110", "0001000", "0001010", "0001011", "0001100", "0001101"};
    int[] numbers = {6, -5, 5, -4, -3, -2, -1, 0, 1, 2, 3, 4, 5, -5, 6, -6};
    for (int i = 0; i < numbers.length; i++) {
      GreyReel y = Paint.coded(Paint.strips(Paint.exact(), Paint.WAVE, 0));
      Paint.strips(y, Paint.WAVE, numbers[i]).code();
      String moved = numbers[i] == 0 ? "0" + "0" + "0" + "0"
          : "10" + "1" + codes[i] + "0000" + "10" + "0" + "0";
      packet("moved down by halves, " + numbers[i], y, 1, 1, "00001" + "0" + "000001" + "0" + moved);
    }
  }

  private void counts() {
    on.sentence("Term 6", "how many levels of its row up to the last one that is not 0 (0 to 16)");
    // One level, at the last place: 16 is long; 15 levels of 0, the first one in its own CONTEXT.
    GreyReel x = Paint.exact();
    x.setStep(4);
    x.fill(128);
    for (int at = 0; at < 16; at++) {
      x.box(at % 4, at / 4, 1, 1, (at % 4 + at / 4) % 2 == 0 ? 129 : 127);
    }
    x.code();
    due("its level", x.levelAt(0, 0, 0, 15), 1);
    // The mean of the first CONTEXT then: 19, 15, 12, 9, 7, 6, 5, 4, 3.
    packet("a level at the last place", x, 0, 0, "00000" + "1" + "000100" + "0" + "110"
        + LONG + "000000010000" + "0" + "0".repeat(14) + "10" + "0000" + "000" + "000"
        + "0" + "000" + "00" + "00" + "00" + "0" + "0000" + "0" + "0000");
    GreyReel none = Paint.exact();
    none.fill(128);
    none.code();
    packet("no levels", none, 0, 2,
        "00000" + "1" + "000001" + "0" + "110" + "0000" + "00000".repeat(3));
  }

  /** What the first level of the first quarter is written as, with its count 1 ahead of it. */
  private void firstLevel(int level, String bits) {
    GreyReel x = Paint.exact();
    x.setStep(4);
    x.fill(128);
    x.box(0, 0, 4, 4, 128 + level);
    x.code();
    String start = "00000" + "1" + "000100" + "0" + "110" + "10";
    due("a first level of " + level, bitsOf(x, 0, 0).substring(18, 18 + bits.length()), bits);
    due("what is ahead of it", bitsOf(x, 0, 0).substring(0, 18), start);
  }

  private void contexts() {
    on.sentence("Term 6", "k is the smallest number, 0 or more, with 4 * 2 to the power of k not");
    firstLevel(1, "10");
    firstLevel(-1, "110");
    firstLevel(6, "111111111110");
    firstLevel(-6, LONG + "000000001100");
    firstLevel(7, LONG + "000000001101");
    firstLevel(-128, LONG + "000100000000");
    GreyReel most = Paint.columns(Paint.exact(), 0, 0, 0, 0, 0, 0, 0, 0, 255);
    most.code();
    due("the largest level", most.levelAt(0, 1, 0, 0), 1020);
    on.sentence("Term 6", "Then m becomes m - m / 4 + v.");
    GreyReel x = Paint.exact();
    x.setStep(4);
    x.fill(128);
    // f of the four first levels: 7, then with the mean 10 and k 2 7, with 15 and k 2 8, 20 and 3 9.
    x.box(0, 0, 4, 4, 132);
    x.box(4, 0, 4, 4, 132);
    x.box(0, 4, 4, 4, 124);
    x.box(4, 4, 4, 4, 133);
    x.code();
    String levels = "10" + "11111110" + "10" + "10" + "11" + "10" + "110" + "00" + "10" + "10" + "001";
    due("four first levels, one behind another", bitsOf(x, 0, 0).substring(16, 16 + levels.length()),
        levels);
    largestMeans();
  }

  /** Levels of 1020 and -1020 in turn: the mean goes up to some 5,000, and k to 11. */
  private void largestMeans() {
    GreyReel x = Paint.columns(Paint.exact(), 0, 0, 0, 0, 0, 0, 0, 0, 255);
    x.box(16, 0, 8, 24, 0);
    x.box(24, 0, 8, 24, 255);
    x.code();
    due("levels in turn", x.levelAt(0, 1, 0, 0) + " " + x.levelAt(0, 2, 0, 0) + " "
        + x.levelAt(0, 3, 3, 0), "1020 -1020 1020");
    int mean = 4;
    StringBuilder bits = new StringBuilder("00000" + "1" + "000001" + "0");
    int[] folded = {1024, 2039, 2040, 2039};
    int counted = 4;
    for (int block = 0; block < 4; block++) {
      bits.append(block == 0 ? "110" : "0");
      for (int quarter = 0; quarter < 4; quarter++) {
        counted = counted - counted / 4 + 1;
        bits.append("10");
        int k = 0;
        while (4 << k < mean) {
          k++;
        }
        int v = folded[block];
        String low = Integer.toBinaryString((1 << 12) + v).substring(13 - k);
        bits.append(v >> k >= 12 ? LONG + Integer.toBinaryString((1 << 12) + v).substring(1)
            : "1".repeat(v >> k) + "0" + low);
        mean = mean - mean / 4 + v;
      }
    }
    on.holds("the mean comes above 4 * 1024", mean > 4 * 1024);
    due("the mean of the counts stays", counted, 4);
    for (int band = 0; band < 3; band++) {
      packet("levels in turn, band " + band, x, 0, band, bits.toString());
    }
    x.handAll(0);
    due("driftNext() of them", x.driftNext(), 0);
  }

  // ---- Term 7

  private void targets() {
    on.sentence("Term 7", "There is a target, in bytes, 0 to 400 (0, at first: none)");
    GreyReel x = new GreyReel();
    due("step() at first", x.step(), 8);
    due("the target at first", x.setTarget(400), 0);
    due("the target then", x.setTarget(0), 400);
    for (int q : new int[] {1, 8, 60}) {
      x.setStep(q);
      x.code();
      due("step() without a target", x.step(), q);
    }
  }

  /** The step behind a KEY of 15 bytes, or of 36 ones with the step 8, or a DELTA of 9. */
  private int stepBehind(int bytes, int q, int target) {
    GreyReel x = bytes == 9 ? Paint.coded(Paint.tiled()) : new GreyReel();
    if (bytes == 15) {
      x.fill(128);
    }
    x.setStep(q);
    x.setTarget(target);
    due("code()", x.code(), bytes);
    due("isKey", x.isKey(x.pictures() - 1), bytes != 9);
    return x.step();
  }

  private void rate() {
    on.sentence("Term 7", "With a target that is not 0, behind each picture");
    // Bytes, step, target, and the step then: 60 is above 45, not above 60; 144 is not below 144.
    int[][] rows = {
      {15, 8, 3, 11}, {15, 8, 4, 8}, {15, 8, 6, 8}, {15, 8, 7, 7}, {15, 8, 400, 7},
      {36, 8, 9, 11}, {36, 8, 10, 8}, {36, 8, 16, 8}, {36, 8, 17, 7},
      {9, 8, 7, 11}, {9, 8, 8, 8}, {9, 8, 12, 8}, {9, 8, 13, 7}, {9, 8, 1, 11},
      {15, 1, 1, 2}, {15, 3, 1, 4}, {15, 4, 1, 6}, {15, 47, 1, 59}, {15, 48, 1, 60},
      {15, 49, 1, 60}, {15, 59, 1, 60}, {15, 60, 1, 60}, {15, 60, 400, 59}, {15, 2, 400, 1},
      {15, 1, 400, 1}, {9, 60, 1, 60}, {9, 1, 400, 1}
    };
    for (int[] row : rows) {
      String what = "bytes " + row[0] + ", step " + row[1] + ", target " + row[2];
      due("step() behind " + what, stepBehind(row[0], row[1], row[2]), row[3]);
    }
    GreyReel every = new GreyReel();
    every.fill(128);
    every.setTarget(1);
    int[] steps = {11, 14, 18, 23, 29, 37, 47, 59, 60, 60};
    for (int step : steps) {
      every.code();
      due("step() behind each picture", every.step(), step);
    }
    // Another grey behind a still one is a KEY after all: three times the target is for it, too.
    GreyReel after = Paint.coded(Paint.tiled());
    after.setStep(8);
    after.fill(128);
    after.setTarget(4);
    due("code() of a KEY after all", after.code(), 15);
    due("isKey(1)", after.isKey(1), true);
    due("step() behind a KEY after all", after.step(), 8);
  }

  private void keys() {
    on.sentence("Term 7", "A picture is a KEY, if it is the first one");
    for (int interval : new int[] {0, 1, 2, 3, 23, 24}) {
      GreyReel x = Paint.tiled();
      if (interval != 0) {
        x.setInterval(interval);
      }
      int every = interval == 0 ? 12 : interval;
      for (int picture = 0; picture < 24; picture++) {
        x.code();
        due("isKey(" + picture + ") with the interval " + every, x.isKey(picture),
            picture % every == 0);
      }
    }
    GreyReel asked = Paint.tiled();
    asked.setInterval(3);
    asked.askKey();
    boolean[] keys = {true, false, true, false, false, true};
    for (int picture = 0; picture < 6; picture++) {
      if (picture == 2) {
        asked.askKey();
        asked.askKey();
      }
      asked.code();
      due("isKey(" + picture + "), asked ahead of 0 and 2", asked.isKey(picture), keys[picture]);
    }
    GreyReel changed = Paint.tiled();
    for (int picture = 0; picture < 5; picture++) {
      changed.code();
    }
    changed.setInterval(5);
    changed.code();
    due("isKey(5) with the interval 5 behind four DELTAs", changed.isKey(5), true);
    changed.code();
    changed.setInterval(3);
    changed.code();
    due("isKey(7) with the interval 3 behind one DELTA", changed.isKey(7), false);
  }

  /** Tiles that are near to 128, and so far from those that were there; a SKIP when coded again. */
  private static void paintFresh(GreyReel x, int block) {
    int column = block % 4 * 8;
    int line = block / 4 * 8;
    x.box(column, line, 8, 8, 130);
    x.box(column, line, 4, 4, 126);
    x.box(column + 4, line + 4, 4, 4, 126);
  }

  private void keyAfterAll() {
    on.sentence("Term 7", "more than 8 of its blocks would be neither SKIP nor MOVED");
    for (int fresh : new int[] {7, 8, 9, 12}) {
      GreyReel x = Paint.coded(Paint.tiled());
      x.setInterval(3);
      for (int block = 0; block < fresh; block++) {
        paintFresh(x, block);
      }
      int bytes = x.bytesWith(4);
      due("code() with new blocks, " + fresh, x.code(), bytes);
      due("isKey(1) with new blocks, " + fresh, x.isKey(1), fresh > 8);
      due("SKIPs with new blocks, " + fresh, x.kinds(1, 0), fresh > 8 ? 0 : 12 - fresh);
      due("its packets' bit for a KEY", bitsOf(x, 1, 2).charAt(5), fresh > 8 ? '1' : '0');
      x.code();
      due("isKey(2), the interval begins anew", x.isKey(2), false);
      x.code();
      due("isKey(3), the interval is 3", x.isKey(3), fresh <= 8);
    }
  }

  // ---- Term 8

  private void order() {
    on.sentence("Term 8", "THE VIEWER shows pictures in their order, the first one first.");
    GreyReel x = Paint.exact();
    for (int grey = 0; grey < 3; grey++) {
      x.fill(50 + grey);
      x.askKey();
      x.code();
    }
    x.handAll(2);
    x.handAll(1);
    due("show() of the first one, nothing got", x.show(), 3);
    due("shownAt(0, 0)", x.shownAt(0, 0), 128);
    due("show() of the second one", x.show(), 0);
    due("shownAt(0, 0)", x.shownAt(0, 0), 51);
    due("show() of the third one", x.show(), 0);
    due("shownAt(31, 23)", x.shownAt(31, 23), 52);
    on.sentence("Term 8", "Of each picture it has got some packets, once they were handed over.");
    for (int band = 0; band < 3; band++) {
      GreyReel y = Paint.exact();
      y.code();
      y.hand(0, band);
      due("show() with one packet", y.show(), 2);
      for (int line = 0; line < 24; line++) {
        due("shownAt line " + line, y.shownAt(0, line), line / 8 == band ? 0 : 128);
      }
    }
  }

  private void madeByTheShownOne() {
    on.sentence("Term 8", "by the picture that it showed ahead (128 everywhere, ahead of the first");
    GreyReel x = Paint.coded(Paint.tiled());
    x.box(8, 8, 4, 4, Paint.tile(2, 2) + 9);
    x.code();
    x.show();
    due("shownAt(8, 8) behind a picture lost", x.shownAt(8, 8), 128);
    x.handAll(1);
    due("show() of a DELTA", x.show(), 0);
    due("shownAt(0, 0), a SKIP of what was shown", x.shownAt(0, 0), 128);
    due("shownAt(8, 8), MOVED with a level of 9", x.shownAt(8, 8), 137);
    due("shownAt(12, 8), MOVED without", x.shownAt(12, 8), 128);
    due("resultAt(1, 8, 8)", x.resultAt(1, 8, 8), Paint.tile(2, 2) + 9);
    // Clipped by what was shown: 250 and 9 is no grey, although 240 and 9 is one.
    GreyReel y = Paint.tiled();
    y.box(8, 8, 4, 4, 240);
    y.code();
    y.askKey();
    y.box(8, 8, 4, 4, 250);
    y.code();
    y.handAll(0);
    y.show();
    y.show();
    due("shownAt(8, 8), concealed", y.shownAt(8, 8), 240);
    y.box(8, 8, 4, 4, 230);
    y.code();
    y.handAll(2);
    y.show();
    due("shownAt(8, 8), 20 less than was shown", y.shownAt(8, 8), 220);
  }

  /** Tiles, shown, and then moved by the vector -6, 4; of that picture some bands are handed over. */
  private static GreyReel movedTiles(int... bands) {
    GreyReel x = Paint.coded(Paint.tiled());
    x.handAll(0);
    x.show();
    x.shift(3, -2);
    x.code();
    for (int band : bands) {
      x.hand(1, band);
    }
    x.show();
    return x;
  }

  private void isMoved(String what, GreyReel x, int y, boolean moved) {
    for (int at = 0; at < 32; at++) {
      int column = moved ? Math.max(at - 3, 0) : at;
      int line = moved ? Math.min(y + 2, 23) : y;
      due(what + ", point " + at, x.shownAt(at, y), x.resultAt(0, column, line));
    }
  }

  private void concealed() {
    on.sentence("Term 8", "A block of a band that it did not get is foretold");
    GreyReel all = movedTiles(0, 1, 2);
    due("drift() with all got", all.drift(), 0);
    due("vectorX(1, 1)", all.vectorX(1, 1), -6);
    due("vectorY(1, 1)", all.vectorY(1, 1), 4);
    GreyReel first = movedTiles(0);
    isMoved("line 3, got", first, 3, true);
    isMoved("line 10, below a band that was got", first, 10, true);
    isMoved("line 20, below a band that was not", first, 20, false);
    GreyReel second = movedTiles(1);
    isMoved("line 3, above all", second, 3, false);
    isMoved("line 10, got", second, 10, true);
    isMoved("line 19, below a band that was got", second, 19, true);
    GreyReel third = movedTiles(2);
    isMoved("line 3, above all", third, 3, false);
    isMoved("line 10, below a band that was not", third, 10, false);
    isMoved("line 19, got", third, 19, true);
    GreyReel none = movedTiles();
    isMoved("line 10, nothing got", none, 10, false);
    isMoved("line 23, nothing got", none, 23, false);
    belowOtherKinds();
  }

  private void belowOtherKinds() {
    GreyReel x = Paint.coded(Paint.tiled());
    x.handAll(0);
    x.show();
    x.shift(3, -2);
    x.box(8, 0, 8, 8, 128);
    x.box(0, 0, 8, 8, 128);
    x.code();
    due("kinds above", x.kindOf(1, 1) + " " + x.kindOf(1, 2) + " " + x.kindOf(1, 3), "2 1 0");
    x.hand(1, 0);
    due("show()", x.show(), 2);
    due("below a FLAT one", x.shownAt(12, 10), x.resultAt(0, 12, 10));
    due("below a MOVED one", x.shownAt(20, 10), x.resultAt(0, 17, 12));
    due("below a SKIP", x.shownAt(28, 10), x.resultAt(0, 25, 12));
    // That is all of it: no levels, neither of the block above nor its own.
    GreyReel y = Paint.coded(Paint.tiled());
    y.handAll(0);
    y.show();
    y.box(8, 0, 4, 4, Paint.tile(2, 0) + 7);
    y.box(8, 8, 4, 4, Paint.tile(2, 2) + 9);
    y.code();
    y.hand(1, 0);
    y.show();
    due("a level that was got", y.shownAt(8, 0), Paint.tile(2, 0) + 7);
    due("a level that was lost", y.shownAt(8, 8), Paint.tile(2, 2));
    // Half a point beyond the rim, of what was shown.
    GreyReel z = Paint.coded(Paint.strips(Paint.exact(), Paint.WAVE, 0));
    z.handAll(0);
    z.show();
    Paint.strips(z, Paint.WAVE, 5).code();
    z.hand(1, 0);
    z.hand(1, 1);
    z.show();
    due("the last line, concealed by halves", z.shownAt(0, 23),
        Paint.moved(Paint.strip(Paint.WAVE, 0), 24, 5)[23]);
    due("the line ahead of it", z.shownAt(0, 22),
        Paint.moved(Paint.strip(Paint.WAVE, 0), 24, 5)[22]);
    due("drift(), as all moves alike", z.drift(), 0);
  }

  private void smoothed() {
    on.sentence("Term 8", "Then the picture is smoothed as the picture was, if it got any packet");
    for (int band = -1; band < 3; band++) {
      for (boolean isOn : new boolean[] {false, true}) {
        GreyReel x = new GreyReel();
        x.setStep(4);
        x.setSmoothing(isOn);
        x.fill(120);
        x.code();
        x.setSmoothing(!isOn);
        x.setStep(1);
        if (band >= 0) {
          x.hand(0, band);
        }
        x.show();
        String what = "packet " + band + " got, smoothing " + isOn + ": ";
        // 128 and 120 are 8 apart: not above 12, as the step is 4; e is 2.
        boolean isSeam = isOn && band >= 0;
        due(what + "line 7", x.shownAt(9, 7), band == 0 ? isSeam ? 122 : 120
            : isSeam && band == 1 ? 126 : 128);
        due(what + "line 16", x.shownAt(9, 16), band == 2 ? isSeam ? 122 : 120
            : isSeam && band == 1 ? 126 : 128);
        due(what + "line 4", x.shownAt(9, 4), band == 0 ? 120 : 128);
      }
    }
    // A seam of its own in what is concealed is smoothed, too: 8 apart at x 16, in band 2.
    GreyReel x = new GreyReel();
    x.setStep(4);
    x.setSmoothing(false);
    x.fill(120);
    x.box(16, 0, 16, 24, 128);
    x.code();
    x.handAll(0);
    x.show();
    x.setSmoothing(true);
    x.code();
    x.hand(1, 0);
    x.show();
    due("a seam in a band that was concealed", x.shownAt(15, 20) + " " + x.shownAt(16, 20),
        "122 126");
    x.code();
    x.show();
    due("the seam, nothing got", x.shownAt(15, 20) + " " + x.shownAt(16, 20), "122 126");
  }

  // ---- All calls

  private void refusedCalls() {
    on.sentence("All calls", "A method that throws an exception changes nothing.");
    on.refused("fill(-1)", Edges.ARGUMENT, Paint::busy, x -> x.fill(-1));
    on.refused("box, its grey wrong", Edges.ARGUMENT, Paint::busy, x -> x.box(0, 0, 9, 9, 256));
    on.refused("box, its high wrong", Edges.ARGUMENT, Paint::busy, x -> x.box(0, 0, 9, 33, 25));
    on.refused("ramp, down wrong", Edges.ARGUMENT, Paint::busy, x -> x.ramp(9, 9, 81));
    on.refused("noise, strength wrong", Edges.ARGUMENT, Paint::busy, x -> x.noise(9, 61));
    on.refused("shift, dy wrong", Edges.ARGUMENT, Paint::busy, x -> x.shift(9, 17));
    on.refused("setStep(0)", Edges.ARGUMENT, Paint::busy, x -> x.setStep(0));
    on.refused("setTarget(401)", Edges.ARGUMENT, Paint::busy, x -> x.setTarget(401));
    on.refused("setInterval(25)", Edges.ARGUMENT, Paint::busy, x -> x.setInterval(25));
    on.refused("code()", Edges.STATE, PacketEdgesTest::fullAsked, GreyReel::code);
    on.refused("hand(1, 3)", Edges.INDEX, Paint::busy, x -> x.hand(1, 3));
    on.refused("hand(3, 1)", Edges.INDEX, Paint::busy, x -> x.hand(3, 1));
    on.refused("handAll(3)", Edges.INDEX, Paint::busy, x -> x.handAll(3));
    on.refused("show()", Edges.STATE, PacketEdgesTest::allShown, GreyReel::show);
    on.refused("bytesWith(0)", Edges.ARGUMENT, Paint::busy, x -> x.bytesWith(0));
    on.refused("priceOf(12)", Edges.INDEX, Paint::busy, x -> x.priceOf(12));
    on.sentence("All calls", "If several exceptions apply, the one that is named first is thrown.");
    for (int q : new int[] {0, 61, Integer.MIN_VALUE, Integer.MAX_VALUE}) {
      on.refused("bytesWith(" + q + "), full", Edges.ARGUMENT, Paint::full, x -> x.bytesWith(q));
    }
    for (int block : new int[] {-1, 12, Integer.MIN_VALUE, Integer.MAX_VALUE}) {
      on.refused("priceOf(" + block + "), full", Edges.INDEX, Paint::full, x -> x.priceOf(block));
    }
  }

  private static GreyReel fullAsked() {
    GreyReel x = Paint.full();
    x.setInterval(24);
    x.askKey();
    x.setTarget(1);
    x.fill(9);
    return x;
  }

  private static GreyReel allShown() {
    GreyReel x = Paint.busy();
    while (x.shown() < x.pictures()) {
      x.show();
    }
    return x;
  }

  // ---- Top

  private void calls512() {
    on.sentence("Top", "An object is used for at most 512 calls");
    GreyReel x = new GreyReel();
    PlainReel plain = new PlainReel();
    int calls = 0;
    for (int picture = 0; picture < 24; picture++) {
      x.noise(picture * 2731, 60);
      plain.noise(picture * 2731, 60);
      x.shift(1, 1);
      plain.shift(1, 1);
      due("code() of picture " + picture, x.code(), plain.code());
      x.handAll(picture);
      plain.handAll(picture);
      x.show();
      plain.show();
      calls += 5;
    }
    while (calls < 511) {
      due("call " + calls, x.levelAt(calls % 24, calls % 12, calls % 4, calls % 16),
          plain.levelAt(calls % 24, calls % 12, calls % 4, calls % 16));
      calls++;
    }
    due("the last call", x.digest(), plain.digest());
    GreyReel asked = Paint.busy();
    for (int call = 0; call < 470; call++) {
      int q = 1 + call % 60;
      on.holds("a call that changes nothing", asked.bytesWith(q) > 0);
    }
    due("digest() then", asked.digest(), Paint.busy().digest());
  }

  private void runAll() {
    fillingBits();
    headers();
    kindRows();
    vectors();
    counts();
    contexts();
    targets();
    rate();
    keys();
    keyAfterAll();
    order();
    madeByTheShownOne();
    concealed();
    smoothed();
    refusedCalls();
    calls512();
    on.end(List.of("Top", "Term 6", "Term 7", "Term 8", "All calls"), Set.of());
  }

  public static void main(String[] args) {
    new PacketEdgesTest().runAll();
  }
}
