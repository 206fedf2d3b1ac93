import java.util.List;
import java.util.Set;

/** The edges that Terms 1 to 5 of the document name, sentence by sentence, worked out by hand. */
public final class TermEdgesTest {
  private static final Set<String> WITHOUT_EDGE =
      Set.of("Its calls: one paints", "Each picture is parted into blocks");
  private static final String[] ORDER = {
    "00", "01", "10", "20", "11", "02", "03", "12", "21", "30", "31", "22", "13", "23", "32", "33"
  };
  private static final int[][] W = {{1, 1, 1, 1}, {1, 1, -1, -1}, {1, -1, -1, 1}, {1, -1, 1, -1}};

  private final Edges on = new Edges("TermEdgesTest");

  private void due(String what, Object got, Object want) {
    on.due(what, got, want);
  }

  // ---- Terms

  private void rightAgain() {
    on.sentence("Terms", "it is on the right way again with the next key picture");
    GreyReel x = Paint.tiled();
    for (int picture = 0; picture < 4; picture++) {
      if (picture == 3) {
        x.askKey();
      }
      x.shift(1, 0);
      x.code();
    }
    x.handAll(0);
    x.show();
    due("drift() with all got", x.drift(), 0);
    x.hand(1, 0);
    x.show();
    on.holds("drift() with a packet lost", x.drift() > 0);
    x.handAll(2);
    x.show();
    on.holds("drift() of a DELTA behind the loss", x.drift() > 0);
    x.handAll(3);
    x.show();
    due("drift() of a KEY behind the loss", x.drift(), 0);
  }

  private void wholeNumbers() {
    on.sentence("Terms", "a / b is cut towards 0, a // b downwards");
    GreyReel x = new GreyReel();
    x.fill(100);
    x.ramp(0, -1, 0);
    due("-1 // 8, less than 0", x.canvasAt(1, 0), 99);
    due("-8 // 8", x.canvasAt(8, 0), 99);
    due("-9 // 8", x.canvasAt(9, 0), 98);
    x.fill(100);
    x.ramp(0, 1, 0);
    due("7 // 8", x.canvasAt(7, 0), 100);
    due("8 // 8", x.canvasAt(8, 0), 101);
    due("e of -6, cut towards 0, in p, r, s, t", seam(106, 106, 100, 100), "105 101");
    due("e of -3, cut towards 0, in p, r, s, t", seam(103, 103, 100, 100), "103 100");
    // One level of -1 with the step 3: (-12 + 8) >> 4 is -1.
    GreyReel dark = flat(3, 127);
    due("a >> b below 0", dark.resultAt(0, 0, 0), 127);
    on.sentence("Terms", "clip(a) is a, but not below 0 nor above 255");
    for (int[] row : new int[][] {{255, 0, 255}, {254, 1, 255}, {254, 2, 255}, {0, 0, 0},
        {1, -1, 0}, {1, -2, 0}, {255, -255, 0}, {0, 255, 255}}) {
      x.fill(row[0]);
      x.ramp(row[1], 0, 0);
      due(row[0] + " and " + row[1], x.canvasAt(31, 23), row[2]);
    }
  }

  // ---- Term 1

  private void pictures() {
    on.sentence("Term 1", "PICTURES have 32 points in each of 24 lines");
    GreyReel x = Paint.exact();
    x.fill(128);
    int[][] corners = {{0, 0, 1}, {31, 0, 255}, {0, 23, 0}, {31, 23, 254}};
    for (int[] corner : corners) {
      x.box(corner[0], corner[1], 1, 1, corner[2]);
    }
    due("the point behind the first line's last", x.canvasAt(0, 1), 128);
    due("points of a picture", x.fill(128), 4);
    Paint.columns(x, Paint.PROFILE).code();
    x.handAll(0);
    x.show();
    for (int at : new int[] {0, 31}) {
      due("resultAt column " + at, x.resultAt(0, at, 23), Paint.PROFILE[at]);
      due("shownAt column " + at, x.shownAt(at, 23), Paint.PROFILE[at]);
    }
    GreyReel y = Paint.coded(Paint.lines(Paint.exact(), Paint.PROFILE));
    due("resultAt line 23", y.resultAt(0, 31, 23), Paint.PROFILE[23]);
  }

  private void beyondTheRim() {
    on.sentence("Term 1", "A point that is asked for beyond the rim is the nearest one on it.");
    for (int[] way : new int[][] {{3, 0}, {-3, 0}, {0, 3}, {0, -3}, {3, -3}, {-3, 3}}) {
      GreyReel x = Paint.coded(Paint.tiled());
      x.shift(way[0], way[1]);
      x.code();
      String what = "a picture moved by " + way[0] + ", " + way[1];
      due(what + ": vectorX", x.vectorX(1, 0), -2 * way[0]);
      due(what + ": vectorY", x.vectorY(1, 0), -2 * way[1]);
      due(what + ": kinds SKIP, but for the first ones of the bands", x.kinds(1, 0), 9);
      due(what + ": errorOf", x.errorOf(1), 0);
    }
    GreyReel x = Paint.columns(new GreyReel(), Paint.PROFILE);
    x.shift(16, 0);
    due("shift(16, 0): the last point beyond the rim", x.canvasAt(15, 0), 40);
    due("shift(16, 0): the rim itself", x.canvasAt(16, 0), 40);
    due("shift(16, 0): the next one", x.canvasAt(17, 0), 52);
  }

  private void bandsAndBlocks() {
    on.sentence("Term 1", "blocks are numbered band by band, from 0 to 11");
    for (int block : new int[] {0, 3, 4, 7, 8, 11}) {
      GreyReel x = Paint.coded(Paint.tiled());
      int column = block % 4 * 2 + 1;
      int line = block / 4 * 2 + 1;
      int grey = Paint.tile(column, line);
      x.box(4 * column, 4 * line, 4, 4, grey < 128 ? grey + 9 : grey - 9);
      x.code();
      for (int other = 0; other < 12; other++) {
        due("levels of " + other + " with a change in " + block, x.levels(1, other),
            other == block ? 1 : 0);
      }
      due("its level", Math.abs(x.levelAt(1, block, 3, 0)), 9);
    }
  }

  private void canvasAtFirst() {
    on.sentence("Term 1", "The canvas is a picture, all 0 at first.");
    due("its sum", new GreyReel().ramp(0, 0, 0), 0);
    due("points that are not 0", new GreyReel().fill(0), 0);
  }

  private void atMost24() {
    on.sentence("Term 1", "At most 24 pictures are coded, numbered from 0");
    GreyReel x = Paint.tiled();
    for (int i = 0; i < 24; i++) {
      x.code();
      due("pictures() behind one more", x.pictures(), i + 1);
      due("stepOf the latest", x.stepOf(i), 4);
    }
    on.refused("a picture more", Edges.STATE, Paint::full, GreyReel::code);
    on.refused("a picture 24", Edges.INDEX, Paint::full, a -> a.stepOf(24));
    GreyReel y = Paint.exact();
    y.setStep(60);
    Paint.columns(y, Paint.PROFILE).code();
    int error = y.errorOf(0);
    int result = y.resultAt(0, 4, 4);
    y.fill(1);
    y.code();
    on.holds("errorOf(0) is something", error > 0);
    due("errorOf(0), of the canvas as it was", y.errorOf(0), error);
    due("resultAt(0) stays", y.resultAt(0, 4, 4), result);
  }

  // ---- Term 2

  private void keyOrDelta() {
    on.sentence("Term 2", "A picture is a KEY or a DELTA, and has a step q, 1 to 60.");
    for (int q : new int[] {1, 60}) {
      GreyReel x = Paint.tiled();
      x.setStep(q);
      x.code();
      x.setStep(61 - q);
      x.code();
      due("isKey(0)", x.isKey(0), true);
      due("stepOf(0)", x.stepOf(0), q);
      due("stepOf(1)", x.stepOf(1), 61 - q);
    }
    GreyReel still = Paint.coded(Paint.coded(Paint.tiled()));
    due("isKey(1) of a still canvas", still.isKey(1), false);
    on.sentence("Term 2", "A block has a KIND:");
    int[] kinds = {12, 0, 0, 0, 0};
    for (int kind = 0; kind < 5; kind++) {
      due("kinds(1, " + kind + ") of a still canvas", still.kinds(1, kind), kinds[kind]);
    }
  }

  private void vectors() {
    on.sentence("Term 2", "only in a DELTA, with a vector vx, vy, in halves of points, -6 to 6");
    GreyReel still = Paint.coded(Paint.tiled());
    still.askKey();
    still.code();
    due("SKIP and MOVED in a KEY of a still canvas", still.kinds(1, 0) + still.kinds(1, 1), 0);
    for (int points : new int[] {3, -3}) {
      GreyReel x = Paint.coded(Paint.columns(Paint.exact(), Paint.PROFILE));
      x.shift(points, 0);
      x.code();
      due("vectorX of columns moved by " + points, x.vectorX(1, 0), -2 * points);
      due("vectorY of columns moved by " + points, x.vectorY(1, 0), 0);
      due("errorOf", x.errorOf(1), 0);
      due("levels", x.levels(1, 0) + x.levels(1, 1) + x.levels(1, 2) + x.levels(1, 3), 0);
      GreyReel y = Paint.coded(Paint.strips(Paint.exact(), Paint.PROFILE, 0));
      y.shift(0, points);
      y.code();
      due("vectorX of lines moved by " + points, y.vectorX(1, 4), 0);
      due("vectorY of lines moved by " + points, y.vectorY(1, 4), -2 * points);
      due("errorOf", y.errorOf(1), 0);
    }
    for (int halves : new int[] {-8, -7, 7, 8}) {
      GreyReel x = Paint.coded(Paint.columns(Paint.exact(), Paint.WAVE));
      Paint.columns(x, Paint.moved(Paint.WAVE, 32, halves)).code();
      due("kindOf columns moved too far, " + halves, x.kindOf(1, 4), 1);
      due("vectorX of columns moved too far, " + halves, x.vectorX(1, 4), halves < 0 ? -6 : 6);
      GreyReel y = Paint.coded(Paint.strips(Paint.exact(), Paint.WAVE, 0));
      Paint.strips(y, Paint.WAVE, halves).code();
      due("kindOf lines moved too far, " + halves, y.kindOf(1, 4), 1);
      due("vectorY of lines moved too far, " + halves, y.vectorY(1, 4), halves < 0 ? -6 : 6);
    }
  }

  private void halves() {
    on.sentence("Term 2", "with X = 2 * x + vx and Y = 2 * y + vy, a = X >> 1");
    for (int halves : new int[] {-5, -3, -1, 1, 3, 5}) {
      int[] moved = Paint.moved(Paint.WAVE, 32, halves);
      GreyReel x = Paint.coded(Paint.columns(Paint.exact(), Paint.WAVE));
      Paint.columns(x, moved).code();
      due("vectorX of columns moved by halves, " + halves, x.vectorX(1, 0), halves);
      due("SKIPs of columns moved by halves", x.kinds(1, 0), 9);
      due("the left rim", x.resultAt(1, 0, 3), moved[0]);
      due("the right rim", x.resultAt(1, 31, 3), moved[31]);
      moved = Paint.moved(Paint.strip(Paint.WAVE, 0), 24, halves);
      GreyReel y = Paint.coded(Paint.strips(Paint.exact(), Paint.WAVE, 0));
      Paint.strips(y, Paint.WAVE, halves).code();
      due("vectorY of lines moved by halves, " + halves, y.vectorY(1, 0), halves);
      due("SKIPs of lines moved by halves", y.kinds(1, 0), 9);
      due("the upper rim", y.resultAt(1, 3, 0), moved[0]);
      due("the lower rim", y.resultAt(1, 3, 23), moved[23]);
    }
    // X of the first point is -1: a is -1, not 0, and c is 0; both are the point on the rim.
    due("the first point, moved by -1", Paint.moved(Paint.WAVE, 32, -1)[0], 128);
    due("the second point, moved by -1", Paint.moved(Paint.WAVE, 32, -1)[1], 141);
    fourPoints();
  }

  /** A bright tile moved by half a point both ways: its corner is a quarter of it, and 2, >> 2. */
  private void fourPoints() {
    int[][] rows = {{100, 25, 50}, {101, 25, 51}, {102, 26, 51}, {103, 26, 52}};
    for (int[] row : rows) {
      GreyReel x = Paint.exact();
      x.setStep(4);
      x.box(8, 8, 4, 4, row[0]);
      x.code();
      x.box(8, 8, 5, 5, row[1]);
      x.box(9, 8, 3, 5, row[2]);
      x.box(8, 9, 5, 3, row[2]);
      x.box(9, 9, 3, 3, row[0]);
      x.code();
      due("isKey of a tile, " + row[0], x.isKey(1), false);
      due("vectorX of a tile, " + row[0], x.vectorX(1, 5), -1);
      due("vectorY of a tile, " + row[0], x.vectorY(1, 5), -1);
      due("levels of a tile, " + row[0], x.levels(1, 5), 0);
      due("errorOf a tile, " + row[0], x.errorOf(1), 0);
    }
  }

  private void flat() {
    on.sentence("Term 2", "FLAT (2): all points are foretold as g: 128");
    GreyReel x = Paint.exact();
    x.fill(128);
    x.box(24, 0, 8, 24, 7);
    for (int block : new int[] {0, 4, 8}) {
      due("priceOf the first block of a band, " + block, x.priceOf(block), 1);
    }
    due("priceOf(3), foretold as 128", x.priceOf(3), 64 * 121 + 1);
    // Ten and eleven in the last column: 83 and 4 is 87, >> 3 is 10; 84 and 4 is 88, >> 3 is 11.
    for (int elevens = 3; elevens <= 4; elevens++) {
      GreyReel y = Paint.exact();
      y.box(0, 0, 8, 8, 10);
      y.box(0, 8 - elevens, 8, elevens, 11);
      y.box(8, 0, 8, 8, elevens == 3 ? 10 : 11);
      due("priceOf(1) with elevens, " + elevens, y.priceOf(1), 1);
      y.code();
      due("kindOf(0, 1)", y.kindOf(0, 1), 2);
      due("levels(0, 1)", y.levels(0, 1), 0);
    }
  }

  private void left() {
    on.sentence("Term 2", "LEFT (3), not of the first block of a band");
    GreyReel x = Paint.lines(Paint.exact(), Paint.alternating(40, 200));
    for (int block = 0; block < 12; block++) {
      int price = block % 4 == 0 ? 32 * 88 + 32 * 72 + 1 : 1;
      due("priceOf(" + block + ") of lines", x.priceOf(block), price);
    }
    x.code();
    for (int block = 0; block < 12; block++) {
      due("kindOf(0, " + block + ") of lines", x.kindOf(0, block), block % 4 == 0 ? 2 : 3);
    }
  }

  private void trend() {
    on.sentence("Term 2", "TREND (4), likewise not of the first one");
    // m and l, and what the next eight columns are then.
    int[][] rows = {
      {101, 100, 99, 99, 99, 99, 98, 98, 98, 98},
      {100, 101, 101, 101, 101, 102, 102, 102, 102, 103},
      {102, 99, 98, 97, 96, 96, 95, 94, 93, 93},
      {200, 250, 255, 255, 255, 255, 255, 255, 255, 255},
      {55, 5, 0, 0, 0, 0, 0, 0, 0, 0},
      {245, 249, 250, 251, 252, 253, 254, 255, 255, 255},
      {11, 7, 6, 5, 4, 3, 2, 1, 0, 0}
    };
    for (int[] row : rows) {
      GreyReel x = Paint.exact();
      Paint.columns(x, 90, 91, 92, row[0], 93, 94, 95, row[1]);
      for (int column = 0; column < 8; column++) {
        x.box(8 + column, 0, 8, 24, row[2 + column]);
      }
      String what = " with m " + row[0] + " and l " + row[1];
      due("priceOf(5)" + what, x.priceOf(5), 2);
      x.code();
      due("kindOf(0, 5)" + what, x.kindOf(0, 5), 4);
      due("levels(0, 5)" + what, x.levels(0, 5), 0);
    }
    GreyReel first = Paint.exact();
    first.box(24, 0, 4, 8, 96);
    first.box(28, 0, 4, 8, 100);
    for (int column = 0; column < 8; column++) {
      first.box(column, 8, 1, 8, 101 + column);
    }
    due("priceOf(4), no TREND of block 3", first.priceOf(4), 8 * 188 + 1);
  }

  private void aheadOfSmoothing() {
    on.sentence("Term 2", "go by the points of the picture that is made as they are ahead of smooth");
    GreyReel x = new GreyReel();
    x.setStep(4);
    Paint.columns(x, 90, 90, 90, 90, 90, 90, 90, 90, 102, 102, 102, 102, 102, 102, 102, 102, 96);
    x.box(0, 8, 8, 8, 94);
    due("priceOf(1)", x.priceOf(1), 64 * 12 + 4);
    due("priceOf(2)", x.priceOf(2), 64 * 6 + 4);
    due("priceOf(5)", x.priceOf(5), 64 * 8 + 4);
    due("priceOf(9)", x.priceOf(9), 64 * 12 + 4);
    x.code();
    on.holds("smoothed: errorOf(0)", x.errorOf(0) > 0);
    due("levels of block 5: one of each quarter", x.levels(0, 5), 4);
    due("levelAt(0, 5, 0, 0)", x.levelAt(0, 5, 0, 0), 8);
    due("levelAt(0, 9, 0, 0)", x.levelAt(0, 9, 0, 0), 12);
    x.handAll(0);
    due("driftNext()", x.driftNext(), 0);
  }

  private void expected() {
    on.sentence("Term 2", "The EXPECTED vector of a block is that of the block on its left");
    GreyReel x = Paint.coded(Paint.columns(Paint.exact(), Paint.PROFILE));
    x.shift(3, 0);
    int[] prices = new int[12];
    for (int block = 0; block < 12; block++) {
      prices[block] = x.priceOf(block);
    }
    x.code();
    for (int block = 0; block < 12; block++) {
      boolean isFirst = block % 4 == 0;
      due("kindOf(1, " + block + "), moved all", x.kindOf(1, block), isFirst ? 1 : 0);
      due("priceOf(" + block + "), moved all", prices[block], isFirst ? 8 : 2);
    }
    GreyReel y = Paint.coded(Paint.columns(Paint.exact(), Paint.PROFILE));
    y.shift(3, 0);
    // What block 0 ends with, so that block 1 is FLAT.
    y.box(8, 0, 8, 24, Paint.PROFILE[4]);
    due("priceOf(2), behind a FLAT one", y.priceOf(2), 8);
    y.code();
    due("kindOf(1, 1), FLAT", y.kindOf(1, 1), 2);
    due("vectorX(1, 1) of a FLAT one", y.vectorX(1, 1), 0);
    due("kindOf(1, 2), behind a FLAT one", y.kindOf(1, 2), 1);
    due("vectorX(1, 2), behind a FLAT one", y.vectorX(1, 2), -6);
    due("kindOf(1, 3), behind a MOVED one", y.kindOf(1, 3), 0);
    on.sentence("Term 2", "A SKIP has its EXPECTED vector.");
    for (int block = 0; block < 12; block++) {
      due("vectorX(1, " + block + "), moved all", x.vectorX(1, block), -6);
      due("vectorY(1, " + block + "), moved all", x.vectorY(1, block), 0);
    }
    GreyReel still = Paint.coded(Paint.coded(Paint.tiled()));
    due("vectorX(1, 11) of a still canvas", still.vectorX(1, 11), 0);
  }

  // ---- Term 3

  /** A picture of one grey, coded with a step. */
  private static GreyReel flat(int q, int grey) {
    GreyReel x = Paint.exact();
    x.setStep(q);
    x.fill(grey);
    return Paint.coded(x);
  }

  private void quarters() {
    on.sentence("Term 3", "the left upper, the right upper, the left lower and the right lower one");
    for (int quarter = 0; quarter < 4; quarter++) {
      GreyReel x = Paint.exact();
      x.setStep(4);
      x.fill(128);
      x.box(8 + quarter % 2 * 4, 8 + quarter / 2 * 4, 4, 4, 133);
      x.code();
      due("levels(0, 5)", x.levels(0, 5), 1);
      due("levelAt(0, 5, " + quarter + ", 0)", x.levelAt(0, 5, quarter, 0), 5);
      for (int other = 0; other < 4; other++) {
        int result = x.resultAt(0, 11 + other % 2, 11 + other / 2);
        due("the result in quarter " + other, result, other == quarter ? 133 : 128);
      }
    }
  }

  private static void paintPattern(GreyReel x, String which, int size) {
    for (int at = 0; at < 16; at++) {
      int sign = W[which.charAt(0) - '0'][at / 4] * W[which.charAt(1) - '0'][at % 4];
      x.box(at % 4, at / 4, 1, 1, 128 + sign * size);
    }
  }

  private void sums() {
    on.sentence("Term 3", "there are 16 SUMS");
    GreyReel least = Paint.columns(Paint.exact(), 255, 255, 255, 255, 255, 255, 255, 255, 0);
    least.code();
    due("the least level", least.levelAt(0, 1, 0, 0), -1020);
    due("its errorOf", least.errorOf(0), 0);
    GreyReel most = Paint.columns(Paint.exact(), 0, 0, 0, 0, 0, 0, 0, 0, 255);
    most.code();
    due("the largest level", most.levelAt(0, 1, 3, 0), 1020);
    due("its errorOf", most.errorOf(0), 0);
    on.sentence("Term 3", "The levels of a quarter are in the order (u, v)");
    for (int place = 0; place < 16; place++) {
      GreyReel x = Paint.exact();
      x.setStep(4);
      x.fill(128);
      int size = place % 2 == 0 ? 7 : -7;
      paintPattern(x, ORDER[place], size);
      x.code();
      due("levels of a pattern " + ORDER[place], x.levels(0, 0), 1);
      due("the level of a pattern " + ORDER[place], x.levelAt(0, 0, 0, place), size);
      due("errorOf a pattern " + ORDER[place], x.errorOf(0), 0);
    }
  }

  private void levels() {
    on.sentence("Term 3", "The LEVEL L(u, v) is (|S(u, v)| + (4 * q) / 3) / (4 * q)");
    // The step, how far one point is from 128, which is each sum, and the level.
    int[][] points = {
      {1, 2, 0}, {1, 3, 1}, {1, 6, 1}, {1, 7, 2}, {2, 5, 0}, {2, 6, 1}, {2, 13, 1}, {2, 14, 2},
      {3, 7, 0}, {3, 8, 1}, {3, 19, 1}, {3, 20, 2}, {1, 126, 31}, {1, 127, 32}
    };
    for (int[] row : points) {
      for (int sign = -1; sign <= 1; sign += 2) {
        GreyReel x = Paint.exact();
        x.setStep(row[0]);
        x.fill(128);
        x.box(0, 0, 1, 1, 128 + sign * row[1]);
        x.code();
        String what = "the step " + row[0] + " and the sum " + sign * row[1] + ", at ";
        due(what + "00", x.levelAt(0, 0, 0, 0), sign * row[2]);
        due(what + "33", x.levelAt(0, 0, 0, 15), sign * row[2]);
        due("levels", x.levels(0, 0), row[2] == 0 ? 0 : 16);
      }
    }
    // The step, how far all points are from 128, and the level of 16 times that.
    int[][] all = {{60, 9, 0}, {60, 10, 1}, {60, 24, 1}, {60, 25, 2}, {59, 9, 0}, {59, 10, 1}};
    for (int[] row : all) {
      for (int sign = -1; sign <= 1; sign += 2) {
        GreyReel x = flat(row[0], 128 + sign * row[1]);
        String what = "the step " + row[0] + " and all points " + sign * row[1];
        due(what, x.levelAt(0, 0, 2, 0), sign * row[2]);
        due(what + ", levels", x.levels(0, 0), row[2] == 0 ? 0 : 4);
      }
    }
  }

  private void backAgain() {
    on.sentence("Term 3", "Back again: N(i, j) is");
    // The step, the grey of all points, one level of 1 or -1, and the grey that is made.
    int[][] rows = {
      {3, 129, 1, 129}, {3, 127, -1, 127}, {5, 129, 1, 129}, {5, 127, -1, 127},
      {6, 129, 1, 130}, {6, 127, -1, 127}, {7, 130, 1, 130}, {7, 126, -1, 126}
    };
    for (int[] row : rows) {
      GreyReel x = flat(row[0], row[1]);
      String what = "the step " + row[0] + ", the grey " + row[1];
      due(what + ", the level", x.levelAt(0, 0, 0, 0), row[2]);
      due(what + ", made", x.resultAt(0, 0, 0), row[3]);
    }
    // Six points of a quarter, so that no other sum is above 5: 8 and 8 >> 4 is 1, -8 and 8 is 0.
    int[] six = {0, 1, 6, 7, 9, 12};
    for (int sign = -1; sign <= 1; sign += 2) {
      GreyReel x = Paint.exact();
      x.setStep(2);
      x.fill(128);
      for (int at : six) {
        x.box(at % 4, at / 4, 1, 1, 128 + sign);
      }
      x.code();
      due("levels of six points", x.levels(0, 0), 1);
      due("the level of six points", x.levelAt(0, 0, 0, 0), sign);
      for (int at = 0; at < 16; at += 5) {
        due("made of six points, " + sign, x.resultAt(0, at % 4, at / 4), sign > 0 ? 129 : 128);
      }
    }
  }

  private void clipped() {
    on.sentence("Term 3", "A point that is made is clip(what is foretold + N).");
    // With the step 52 white has a level of 10, which is 130 above 128, black one of -10.
    GreyReel white = flat(52, 255);
    due("the level of white", white.levelAt(0, 0, 0, 0), 10);
    due("white as it is made", white.resultAt(0, 0, 0), 255);
    due("errorOf white", white.errorOf(0), 0);
    GreyReel black = flat(52, 0);
    due("the level of black", black.levelAt(0, 0, 0, 0), -10);
    due("black as it is made", black.resultAt(0, 0, 0), 0);
    due("errorOf black", black.errorOf(0), 0);
  }

  // ---- Term 4

  private void numbersAndDifference() {
    on.sentence("Term 4", "Blocks are coded by their numbers.");
    GreyReel x = Paint.exact();
    x.setStep(60);
    x.fill(133);
    due("priceOf(0)", x.priceOf(0), 64 * 5 + 60);
    // Block 0 is made 128, as 5 is too little for a level, and block 1 is foretold by that.
    due("priceOf(1), by the block 0 that is made", x.priceOf(1), 64 * 5 + 60);
    on.sentence("Term 4", "DIFFERENCE is the sum of |what is coded - what is foretold|");
    for (int[] corner : new int[][] {{0, 0}, {7, 0}, {0, 7}, {7, 7}}) {
      for (int grey : new int[] {118, 138}) {
        GreyReel y = Paint.exact();
        y.fill(128);
        y.box(corner[0], corner[1], 1, 1, grey);
        due("priceOf(0) with a point within", y.priceOf(0), 10 + 1);
      }
    }
    for (int[] beyond : new int[][] {{8, 0}, {0, 8}, {8, 8}, {31, 23}}) {
      GreyReel y = Paint.exact();
      y.fill(128);
      y.box(beyond[0], beyond[1], 1, 1, 0);
      due("priceOf(0) with a point beyond", y.priceOf(0), 1);
    }
    due("the largest DIFFERENCE", Paint.exact().priceOf(0), 64 * 128 + 1);
  }

  private void prices() {
    on.sentence("Term 4", "The PRICE of FLAT and LEFT is DIFFERENCE + q");
    for (int q : new int[] {1, 7, 60}) {
      GreyReel flat = new GreyReel();
      flat.setStep(q);
      flat.fill(128);
      due("of FLAT with the step " + q, flat.priceOf(5), q);
      for (int[] way : new int[][] {{0, 0, 2}, {2, 0, 6}, {0, -2, 6}, {1, 1, 6}, {-3, 2, 12},
          {3, 3, 14}, {-3, -3, 14}}) {
        GreyReel moved = Paint.coded(Paint.tiled());
        moved.setStep(q);
        moved.shift(way[0], way[1]);
        String what = "of MOVED by " + way[0] + ", " + way[1] + " with the step " + q;
        due(what, moved.priceOf(4), q * way[2]);
        due(what + ", as expected", moved.priceOf(5), q * 2);
      }
    }
    GreyReel left = Paint.lines(Paint.exact(), Paint.alternating(40, 200));
    left.box(11, 3, 1, 1, 207);
    due("of LEFT with a point off by 7", left.priceOf(1), 7 + 1);
    GreyReel trend = Paint.columns(Paint.exact(), 90, 91, 92, 96, 93, 94, 95, 100);
    for (int column = 0; column < 8; column++) {
      trend.box(8 + column, 0, 8, 24, 101 + column);
    }
    trend.box(11, 3, 1, 1, 111);
    due("of TREND with a point off by 7", trend.priceOf(1), 7 + 2);
    GreyReel turned = Paint.coded(Paint.columns(Paint.exact(), Paint.PROFILE));
    Paint.columns(turned, Paint.moved(Paint.PROFILE, 32, -6));
    int[] back = Paint.moved(Paint.PROFILE, 32, 6);
    for (int column = 8; column < 32; column++) {
      turned.box(column, 0, 32, 24, back[column]);
    }
    due("of MOVED as far from the EXPECTED vector as can be", turned.priceOf(1), 2 + 12);
  }

  /** What is coded as it is, and what block 5 is then; block 4 is FLAT, so nothing is expected. */
  private static GreyReel withBlock5(GreyReel x, int[] columns) {
    x.code();
    x.box(0, 8, 8, 8, 128);
    for (int at = 0; at < 8; at++) {
      x.box(8 + at, 8, 1, 8, columns[at]);
    }
    return x;
  }

  private void soughtVector() {
    on.sentence("Term 4", "In a DELTA the vector is sought first");
    int[] turned = Paint.alternating(200, 40);
    GreyReel across = Paint.columns(Paint.exact(), Paint.alternating(40, 200));
    withBlock5(across, turned).code();
    due("vector, -2 as good as 2", vector(across), "-2 0");
    GreyReel down = striped();
    for (int y = 8; y < 16; y++) {
      down.box(8, y, 8, 1, turned[y]);
    }
    down.code();
    due("vector, -2 as good as 2 of lines", vector(down), "0 -2");
    GreyReel boards = checkered(2);
    boards.shift(2, 0);
    boards.box(0, 8, 8, 8, 128);
    boards.code();
    due("vector, four ways as good, rising vy first", vector(boards), "0 -4");
    neighbours();
    noFarNeighbours();
    noneBeyond();
    lessThanItsOwn();
  }

  private static String vector(GreyReel x) {
    return x.vectorX(1, 5) + " " + x.vectorY(1, 5);
  }

  /** Stripes as far as a vector of block 5 reaches, coded as they are, and a FLAT block 4. */
  private static GreyReel striped() {
    GreyReel x = Paint.columns(Paint.exact(), Paint.PROFILE);
    for (int y = 0; y < 24; y++) {
      x.box(4, y, 16, 1, y % 2 == 0 ? 40 : 200);
    }
    x.code();
    x.box(0, 8, 8, 8, 128);
    return x;
  }

  private void neighbours() {
    int[] between = {120, 120, 120, 120, 120, 120, 120, 120};
    GreyReel across = Paint.columns(Paint.exact(), Paint.alternating(40, 200));
    withBlock5(across, between).code();
    due("vector, -1 as good as 1", vector(across), "-1 0");
    GreyReel down = striped();
    down.box(8, 8, 8, 8, 120);
    down.code();
    due("vector, -1 as good as 1 of lines", vector(down), "0 -1");
    GreyReel board = checkered(1);
    board.box(8, 8, 8, 8, 120);
    board.box(0, 8, 8, 8, 128);
    board.code();
    due("vector, four neighbours as good", vector(board), "0 -1");
  }

  /**
   * Stripes so strong that all even vectors are as bad, and 0, 0 costs least; between the stripes a
   * slope of 4 a point, and block 5 is a point further on it: two halves, one too far for i or k.
   */
  private void noFarNeighbours() {
    for (int way = -1; way <= 1; way += 2) {
      GreyReel across = Paint.lines(Paint.exact(), Paint.alternating(10, 110));
      across.ramp(0, 32, 0);
      across.code();
      across.box(0, 8, 8, 8, 128);
      for (int at = 8; at < 16; at++) {
        across.box(at, 8, 1, 8, 60 + 4 * (at + way));
      }
      across.code();
      due("errorOf(0) of stripes on a slope", across.errorOf(0), 0);
      due("vector, two halves across are no neighbour", vector(across), way + " -1");
      GreyReel down = Paint.columns(Paint.exact(), Paint.alternating(10, 110));
      down.ramp(0, 0, 32);
      down.code();
      down.box(0, 8, 8, 8, 128);
      for (int at = 8; at < 16; at++) {
        down.box(8, at, 8, 1, 60 + 4 * (at + way));
      }
      down.code();
      due("errorOf(0) of stripes on a slope down", down.errorOf(0), 0);
      due("vector, two halves down are no neighbour", vector(down), "-1 " + way);
    }
  }

  /**
   * Stripes again, and block 5 between them, but 6 or -6 is expected of it, as all others are moved
   * so: of the neighbours 5 and 7 only 5 can be.
   */
  private void noneBeyond() {
    for (int way = -1; way <= 1; way += 2) {
      GreyReel across = Paint.columns(Paint.exact(), Paint.alternating(10, 110));
      for (int x = 0; x < 4; x++) {
        across.box(x, 0, 1, 24, Paint.PROFILE[x]);
      }
      across.ramp(0, 0, 32);
      across.code();
      across.shift(-3 * way, 0);
      for (int at = 8; at < 16; at++) {
        across.box(8, at, 8, 1, 60 + 4 * at);
      }
      across.code();
      due("vectorX(1, 4)", across.vectorX(1, 4), 6 * way);
      due("vector, none beyond across", vector(across), 5 * way + " 0");
      GreyReel down = Paint.lines(Paint.exact(), Paint.alternating(10, 110));
      for (int y = 0; y < 24; y++) {
        down.box(0, y, 4, 1, Paint.PROFILE[y]);
      }
      down.ramp(0, 32, 0);
      down.code();
      down.shift(0, -3 * way);
      for (int at = 8; at < 16; at++) {
        down.box(at, 8, 1, 8, 60 + 4 * at);
      }
      down.code();
      due("vectorY(1, 4)", down.vectorY(1, 4), 6 * way);
      due("vector, none beyond down", vector(down), "0 " + 5 * way);
    }
  }

  /** A slope of 2 a point; brighter by 1 in some columns, as it is half a point further on. */
  private void lessThanItsOwn() {
    for (int columns = 5; columns <= 6; columns++) {
      int[] greys = Paint.PROFILE.clone();
      for (int at = 7; at <= 16; at++) {
        greys[at] = 100 + 2 * at;
      }
      int[] brighter = new int[8];
      for (int at = 0; at < 8; at++) {
        brighter[at] = greys[8 + at] + (at < columns ? 1 : 0);
      }
      GreyReel slope = withBlock5(Paint.columns(Paint.exact(), greys), brighter);
      slope.setStep(16);
      // 0, 0 with 40 and 32, or 48 and 32; 1, 0 with 24 and 48, or 16 and 48.
      due("priceOf(5) with columns, " + columns, slope.priceOf(5), columns == 5 ? 72 : 64);
      slope.code();
      due("vector, a neighbour as good, or better", vector(slope), columns == 5 ? "0 0" : "1 0");
    }
  }

  /** Squares of 120 - 80 and 120 + 80, coded as they are; single points round block 5 alone. */
  private GreyReel checkered(int side) {
    GreyReel x = Paint.exact();
    x.setStep(4);
    x.fill(side == 1 ? 120 : 40);
    int least = side == 1 ? 4 : 0;
    int mostX = side == 1 ? 20 : 32;
    int mostY = side == 1 ? 20 : 24;
    if (side == 1) {
      x.box(4, 4, 16, 16, 40);
    }
    for (int y = least; y < mostY; y += side) {
      for (int column = least; column < mostX; column += side) {
        if ((column / side + y / side) % 2 == 1) {
          x.box(column, y, side, side, 200);
        }
      }
    }
    x.code();
    due("errorOf squares of " + side, x.errorOf(0), 0);
    return x;
  }

  private void firstOfLeast() {
    on.sentence("Term 4", "Then of MOVED with this vector (in a DELTA), FLAT, LEFT and TREND");
    flatAsGoodAsMoved();
    GreyReel even = new GreyReel();
    even.fill(128);
    even.code();
    due("kindOf(0, 1), LEFT as good as FLAT", even.kindOf(0, 1), 2);
    // FLAT or LEFT 152 and 16, TREND 136 and 32; one point brighter, TREND is less by 2.
    for (int lower = 0; lower <= 80; lower += 80) {
      for (int more = 0; more <= 1; more++) {
        GreyReel x = Paint.exact();
        x.setStep(16);
        paintTrend(x, 0, 0);
        paintTrend(x, 4, lower);
        x.box(8, 0, 1, 1, 100 + more);
        due("priceOf(1)", x.priceOf(1), 168 - more);
        x.code();
        int asGood = lower == 0 ? 2 : 3;
        due("kindOf(0, 1), lower by " + lower, x.kindOf(0, 1), more == 0 ? asGood : 4);
      }
    }
  }

  private static void paintTrend(GreyReel x, int line, int brighter) {
    x.box(0, line, 4, 4, 96 + brighter);
    x.box(4, line, 28, 4, 100 + brighter);
    x.box(12, line, 1, 4, 104 + brighter);
    x.box(14, line, 1, 4, 107 + brighter);
    x.box(15, line, 1, 4, 108 + brighter);
  }

  private void flatAsGoodAsMoved() {
    for (int columns = 1; columns <= 2; columns++) {
      int[] greys = Paint.alternating(40, 200);
      for (int at = 0; at < 16; at++) {
        greys[at] = at >= 10 && at < 10 + columns ? 101 : 100;
      }
      GreyReel x = Paint.coded(Paint.columns(Paint.exact(), greys));
      due("errorOf(0)", x.errorOf(0), 0);
      x.setStep(16);
      due("priceOf(1) with columns, " + columns, x.priceOf(1), columns == 2 ? 32 : 24);
      x.code();
      due("isKey(1)", x.isKey(1), false);
      due("kindOf(1, 1) with columns, " + columns, x.kindOf(1, 1), columns == 2 ? 0 : 2);
    }
  }

  private void skipped() {
    on.sentence("Term 4", "If that is MOVED, the vector is the EXPECTED one, and all its levels");
    GreyReel still = Paint.coded(Paint.tiled());
    int grey = Paint.tile(2, 2);
    still.box(8, 8, 4, 4, grey + 9);
    still.code();
    due("kindOf(1, 5), as expected, with a level", still.kindOf(1, 5), 1);
    due("vectorX(1, 5)", still.vectorX(1, 5), 0);
    due("vectorY(1, 5)", still.vectorY(1, 5), 0);
    due("kindOf(1, 6), as expected, without levels", still.kindOf(1, 6), 0);
    GreyReel moved = Paint.coded(Paint.tiled());
    moved.shift(1, 0);
    moved.code();
    due("kindOf(1, 4), not as expected, without levels", moved.kindOf(1, 4), 1);
    due("levels(1, 4)", moved.levels(1, 4), 0);
    due("kindOf(1, 5), as expected, without levels", moved.kindOf(1, 5), 0);
    GreyReel turned = Paint.coded(Paint.tiled());
    turned.shift(0, 1);
    turned.code();
    due("kindOf(1, 4), vy not as expected", turned.kindOf(1, 4), 1);
    // A change that is too small for a level.
    GreyReel small = Paint.coded(Paint.tiled());
    small.box(9, 9, 1, 1, grey + 10);
    small.code();
    due("kindOf(1, 5), a change below a level", small.kindOf(1, 5), 0);
    due("kindOf(1, 5), a change of a level", withChange(11).kindOf(1, 5), 1);
    due("priceOf(5), a SKIP's as MOVED's", skipPrice(grey), 10 + 8);
  }

  private static GreyReel withChange(int change) {
    GreyReel x = Paint.coded(Paint.tiled());
    x.box(9, 9, 1, 1, Paint.tile(2, 2) + change);
    return Paint.coded(x);
  }

  private static int skipPrice(int grey) {
    GreyReel x = Paint.coded(Paint.tiled());
    x.box(9, 9, 1, 1, grey + 10);
    return x.priceOf(5);
  }

  // ---- Term 5

  /** What r and s are in the RESULT, at the seam of the first two blocks. */
  private static String seam(int p, int r, int s, int t) {
    GreyReel x = new GreyReel();
    x.setStep(1);
    Paint.columns(x, p, p, p, p, p, p, p, r, s, t);
    x.code();
    return x.resultAt(0, 7, 5) + " " + x.resultAt(0, 8, 5);
  }

  private void smoothedAcross() {
    on.sentence("Term 5", "SMOOTHING, if it is on as the picture is coded (it is, at first)");
    // With the step 1: |s - r| up to 6, |r - p| and |t - s| up to 3.
    int[][] rows = {
      {100, 100, 106, 106, 101, 105}, {100, 100, 107, 107, 100, 107},
      {106, 106, 100, 100, 105, 101}, {107, 107, 100, 100, 107, 100},
      {97, 100, 106, 106, 101, 105}, {96, 100, 106, 106, 100, 106},
      {103, 100, 106, 106, 101, 105}, {104, 100, 106, 106, 100, 106},
      {100, 100, 106, 109, 101, 105}, {100, 100, 106, 110, 100, 106},
      {100, 100, 106, 103, 101, 105}, {100, 100, 106, 102, 100, 106},
      {100, 100, 104, 104, 101, 103}, {104, 104, 100, 100, 103, 101},
      {100, 100, 103, 103, 100, 103}, {103, 103, 100, 100, 103, 100},
      {100, 100, 100, 100, 100, 100}, {255, 255, 250, 250, 254, 251}, {0, 0, 5, 5, 1, 4}
    };
    for (int[] row : rows) {
      String what = "p, r, s, t of " + row[0] + ", " + row[1] + ", " + row[2] + ", " + row[3];
      due(what, seam(row[0], row[1], row[2], row[3]), row[4] + " " + row[5]);
    }
    for (int at = 1; at <= 31; at++) {
      GreyReel x = new GreyReel();
      x.setStep(1);
      x.fill(100);
      x.box(at, 0, 32, 24, 106);
      x.code();
      for (int y = 0; y < 24; y += 23) {
        due("r at x " + at + ", line " + y, x.resultAt(0, at - 1, y), at % 8 == 0 ? 101 : 100);
        due("s at x " + at + ", line " + y, x.resultAt(0, at, y), at % 8 == 0 ? 105 : 106);
      }
    }
    // The step, the greys on both sides of x 16, and what is made of them there.
    int[][] steps = {
      {4, 90, 102, 93, 99}, {4, 90, 103, 90, 103}, {4, 102, 90, 99, 93}, {4, 103, 90, 103, 90},
      {60, 128, 248, 158, 218}, {60, 113, 248, 113, 248}
    };
    for (int[] row : steps) {
      GreyReel x = new GreyReel();
      x.setStep(row[0]);
      x.fill(row[1]);
      x.box(16, 0, 16, 24, row[2]);
      x.code();
      String what = row[1] + " and " + row[2] + " with the step " + row[0];
      due(what, x.resultAt(0, 15, 9) + " " + x.resultAt(0, 16, 9), row[3] + " " + row[4]);
    }
    switchedOff();
  }

  private void switchedOff() {
    GreyReel x = new GreyReel();
    x.setStep(1);
    x.fill(100);
    x.box(16, 0, 16, 24, 106);
    x.code();
    x.setSmoothing(false);
    due("off behind the picture", x.resultAt(0, 15, 0), 101);
    x.askKey();
    x.code();
    x.setSmoothing(true);
    due("on behind the picture", x.resultAt(1, 15, 0), 100);
  }

  private void smoothedDown() {
    on.sentence("Term 5", "Then for each y of 8 and 16, for each point from the left");
    for (int at = 1; at <= 23; at++) {
      GreyReel x = new GreyReel();
      x.setStep(1);
      x.fill(106);
      x.box(0, at, 32, 24, 100);
      x.code();
      for (int column = 0; column < 32; column += 31) {
        int r = x.resultAt(0, column, at - 1);
        int s = x.resultAt(0, column, at);
        due("r and s at y " + at, r + " " + s, at % 8 == 0 ? "105 101" : "106 100");
      }
    }
    int[][] rows = {
      {103, 100, 106, 109, 101, 105}, {104, 100, 106, 106, 100, 106}, {96, 100, 106, 106, 100, 106},
      {100, 100, 106, 110, 100, 106}, {100, 100, 106, 102, 100, 106}, {100, 100, 107, 107, 100, 107}
    };
    for (int[] row : rows) {
      GreyReel x = new GreyReel();
      x.setStep(1);
      int p = row[0];
      Paint.lines(x, p, p, p, p, p, p, p, row[1], row[2], row[3]).code();
      String what = "p, r, s, t of lines " + p + ", " + row[1] + ", " + row[2] + ", " + row[3];
      due(what, x.resultAt(0, 3, 7) + " " + x.resultAt(0, 3, 8), row[4] + " " + row[5]);
    }
    // Across first: 100, 112 become 103, 109, and 110, 130 stay; then down 103, 110 are 104, 109.
    GreyReel x = new GreyReel();
    x.setStep(4);
    x.fill(100);
    x.box(8, 0, 24, 8, 112);
    x.box(0, 8, 8, 16, 110);
    x.box(8, 8, 24, 16, 130);
    x.code();
    due("the left upper of four blocks", x.resultAt(0, 7, 7), 104);
    due("the right upper of four blocks", x.resultAt(0, 8, 7), 109);
    due("the left lower of four blocks", x.resultAt(0, 7, 8), 109);
    due("the right lower of four blocks", x.resultAt(0, 8, 8), 130);
  }

  private void resultThen() {
    on.sentence("Term 5", "The picture is the RESULT then.");
    GreyReel x = new GreyReel();
    x.setStep(4);
    x.fill(90);
    x.box(8, 0, 24, 24, 102);
    x.code();
    due("resultAt(0, 7, 0)", x.resultAt(0, 7, 0), 93);
    due("errorOf(0)", x.errorOf(0), 24 * (9 + 9));
    // The next picture is foretold by the smoothed one.
    x.box(7, 0, 1, 24, 93);
    x.box(8, 0, 1, 24, 99);
    due("priceOf(0), a SKIP", x.priceOf(0), 8);
    due("priceOf(1), a SKIP", x.priceOf(1), 8);
  }

  private void runAll() {
    rightAgain();
    wholeNumbers();
    pictures();
    beyondTheRim();
    bandsAndBlocks();
    canvasAtFirst();
    atMost24();
    keyOrDelta();
    vectors();
    halves();
    flat();
    left();
    trend();
    aheadOfSmoothing();
    expected();
    quarters();
    sums();
    levels();
    backAgain();
    clipped();
    numbersAndDifference();
    prices();
    soughtVector();
    firstOfLeast();
    skipped();
    smoothedAcross();
    smoothedDown();
    resultThen();
    on.end(List.of("Terms", "Term 1", "Term 2", "Term 3", "Term 4", "Term 5"), WITHOUT_EDGE);
  }

  public static void main(String[] args) {
    new TermEdgesTest().runAll();
  }
}
