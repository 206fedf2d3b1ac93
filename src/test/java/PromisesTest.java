/** Each promise by itself, with answers that were worked out by hand from the document. */
public final class PromisesTest {
  private final Checks checks = new Checks("PromisesTest");

  private void due(String what, Object got, Object want) {
    checks.due(what, got, want);
  }

  private static GreyReel painted() {
    GreyReel x = new GreyReel();
    x.ramp(60, 20, 10);
    x.box(10, 6, 9, 9, 220);
    x.box(20, 14, 6, 5, 30);
    return x;
  }

  /** A ramp of nothing changes nothing, and tells the sum. */
  private static int sumOfCanvas(GreyReel x) {
    return x.ramp(0, 0, 0);
  }

  private void promise1NewObject() {
    GreyReel x = new GreyReel();
    due("pictures() at first", x.pictures(), 0);
    due("step() at first", x.step(), 8);
    due("shown() at first", x.shown(), 0);
    due("the sum of the canvas at first", sumOfCanvas(x), 0);
    due("shownAt(0, 0) at first", x.shownAt(0, 0), 128);
    due("shownAt(31, 23) at first", x.shownAt(31, 23), 128);
    due("setTarget(1) at first", x.setTarget(1), 0);
    due("setInterval(1) at first", x.setInterval(1), 12);
    due("setSmoothing(true) at first", x.setSmoothing(true), true);
    GreyReel other = new GreyReel();
    x.fill(9);
    due("another object's canvas", sumOfCanvas(other), 0);
  }

  private void promise2Fill() {
    GreyReel x = new GreyReel();
    due("fill(0) of black", x.fill(0), 0);
    due("fill(255)", x.fill(255), 768);
    due("the sum then", sumOfCanvas(x), 768 * 255);
    due("fill(255) again", x.fill(255), 0);
    x.box(3, 3, 2, 2, 7);
    due("fill(7)", x.fill(7), 764);
    due("the sum then", sumOfCanvas(x), 768 * 7);
  }

  private void promise3Box() {
    GreyReel x = new GreyReel();
    due("box within", x.box(10, 6, 9, 9, 200), 81);
    due("the sum then", sumOfCanvas(x), 81 * 200);
    due("its left upper point", x.canvasAt(10, 6), 200);
    due("its right lower point", x.canvasAt(18, 14), 200);
    due("the point on its right", x.canvasAt(19, 14), 0);
    due("the point below", x.canvasAt(18, 15), 0);
    due("box of the same grey", x.box(10, 6, 9, 9, 200), 81);
    due("box beyond the left rim", x.box(-32, 0, 32, 32, 9), 0);
    due("box that comes in by one", x.box(-31, -31, 32, 32, 9), 1);
    due("box beyond the right rim", x.box(32, 0, 32, 32, 9), 0);
    due("box beyond the last line", x.box(0, 24, 32, 8, 9), 0);
    due("box at 32, 32", x.box(32, 32, 1, 1, 9), 0);
    due("box in the last corner", x.box(31, 23, 32, 32, 9), 1);
    due("box of all", x.box(0, 0, 32, 32, 255), 768);
    due("the sum then", sumOfCanvas(x), 768 * 255);
  }

  private void promise4Ramp() {
    GreyReel x = new GreyReel();
    due("ramp(-255, 0, 0) of black", x.ramp(-255, 0, 0), 0);
    due("ramp(100, 0, 0)", x.ramp(100, 0, 0), 76800);
    // -x // 8: 0 once, -1 for 1 to 8, -2 to 16, -3 to 24, -4 for 25 to 31.
    due("ramp(0, -1, 0)", x.ramp(0, -1, 0), 76800 - 24 * (8 + 16 + 24 + 28));
    due("its point 8", x.canvasAt(8, 5), 99);
    due("its point 9", x.canvasAt(9, 5), 98);
    x.fill(0);
    due("ramp(0, 0, 8)", x.ramp(0, 0, 8), 32 * (23 * 24 / 2));
    x.ramp(255, 80, 80);
    due("ramp up to white", x.canvasAt(1, 0), 255);
    x.ramp(-255, -80, -80);
    due("ramp down to black", sumOfCanvas(x), 0);
  }

  private void promise5Noise() {
    GreyReel x = new GreyReel();
    x.fill(100);
    int r = 77;
    for (int at = 0; at < 768; at++) {
      r = (r * 1103 + 12345) % 65536;
    }
    due("noise(77, 0)", x.noise(77, 0), r);
    due("the sum behind noise of strength 0", sumOfCanvas(x), 76800);
    due("noise(77, 3)", x.noise(77, 3), r);
    // 77 * 1103 + 12345 = 97276, less 65536 is 31740; >> 4 is 1983; % 7 is 2; less 3 is -1.
    due("its first point", x.canvasAt(0, 0), 99);
    // 31740 * 1103 + 12345 = 35021565, % 65536 is 25341; >> 4 is 1583; % 7 is 1; less 3 is -2.
    due("its second point", x.canvasAt(1, 0), 98);
    x.fill(0);
    x.noise(77, 3);
    due("a point that would be below black", x.canvasAt(0, 0), 0);
    x.noise(65535, 60);
    x.noise(0, 60);
  }

  private void promise6Shift() {
    GreyReel x = new GreyReel();
    x.box(0, 0, 1, 24, 50);
    due("shift(1, 0) of a rim", x.shift(1, 0), 24);
    due("the rim goes on", x.canvasAt(0, 3), 50);
    due("and has come to the next point", x.canvasAt(1, 3), 50);
    due("shift(-1, 0)", x.shift(-1, 0), 24);
    due("shift(0, 16) of columns", x.shift(0, 16), 0);
    x.fill(0);
    x.box(5, 7, 1, 1, 200);
    due("shift(2, -3)", x.shift(2, -3), 2);
    due("the point has come", x.canvasAt(7, 4), 200);
    due("shift(0, 0)", x.shift(0, 0), 0);
    due("shift(16, 16)", x.shift(16, 16), 2);
    due("the point has come", x.canvasAt(23, 20), 200);
    due("shift(-16, -16)", x.shift(-16, -16), 2);
    due("shift(-16, -16) out", x.shift(-16, -16), 1);
    due("the sum then", sumOfCanvas(x), 0);
  }

  private void promise7CanvasAt() {
    GreyReel x = new GreyReel();
    x.box(31, 23, 1, 1, 9);
    x.box(0, 1, 1, 1, 8);
    due("canvasAt(31, 23)", x.canvasAt(31, 23), 9);
    due("canvasAt(0, 1)", x.canvasAt(0, 1), 8);
    due("canvasAt(1, 0)", x.canvasAt(1, 0), 0);
  }

  private void promises8To11Settings() {
    GreyReel x = new GreyReel();
    due("setStep(60)", x.setStep(60), 8);
    due("setStep(1)", x.setStep(1), 60);
    due("setStep(7)", x.setStep(7), 1);
    due("step()", x.step(), 7);
    due("setTarget(400)", x.setTarget(400), 0);
    due("setTarget(0)", x.setTarget(0), 400);
    due("setTarget(33)", x.setTarget(33), 0);
    due("setInterval(24)", x.setInterval(24), 12);
    due("setInterval(1)", x.setInterval(1), 24);
    due("setInterval(5)", x.setInterval(5), 1);
    due("setSmoothing(false)", x.setSmoothing(false), true);
    due("setSmoothing(false) again", x.setSmoothing(false), false);
    due("setSmoothing(true)", x.setSmoothing(true), false);
    due("step() behind all of these", x.step(), 7);
  }

  private void promise12AskKey() {
    GreyReel x = Paint.tiled();
    due("askKey() of the first", x.askKey(), true);
    x.code();
    due("askKey() of the second", x.askKey(), false);
    due("askKey() once more", x.askKey(), true);
    x.code();
    due("isKey(1), asked for", x.isKey(1), true);
    x.code();
    due("isKey(2), not asked for", x.isKey(2), false);
    x.setInterval(2);
    due("askKey() by the interval", x.askKey(), true);
    x.setInterval(3);
    x.code();
    due("isKey(3), asked for although it was due", x.isKey(3), true);
    x.code();
    due("isKey(4)", x.isKey(4), false);
    due("askKey() with one DELTA of the two", x.askKey(), false);
    GreyReel full = Paint.full();
    due("isKey(23) of a still canvas", full.isKey(23), false);
    due("askKey() with 24 pictures, 11 of them DELTAs behind a KEY", full.askKey(), true);
    full.setInterval(13);
    due("askKey() with 24 pictures, asked before", full.askKey(), true);
    GreyReel other = Paint.full();
    other.setInterval(13);
    due("askKey() with 24 pictures, 12 DELTAs wanted", other.askKey(), false);
  }

  private void promise13Code() {
    GreyReel x = new GreyReel();
    due("code() of black", x.code(), 36);
    due("pictures()", x.pictures(), 1);
    // Nine blocks of it are FLAT for less than SKIP, so it is a KEY once more.
    due("code() of black again", x.code(), 36);
    GreyReel still = Paint.tiled();
    still.code();
    due("code() of tiles again", still.code(), 9);
    GreyReel full = Paint.full();
    due("pictures() then", full.pictures(), 24);
    GreyReel every = new GreyReel();
    every.setInterval(1);
    for (int i = 0; i < 3; i++) {
      every.code();
      due("isKey(" + i + ") with the interval 1", every.isKey(i), true);
    }
    GreyReel fourth = Paint.tiled();
    fourth.setInterval(4);
    for (int i = 0; i < 9; i++) {
      fourth.code();
      due("isKey(" + i + ") with the interval 4", fourth.isKey(i), i % 4 == 0);
    }
    GreyReel late = Paint.tiled();
    late.setInterval(24);
    for (int i = 0; i < 24; i++) {
      late.code();
    }
    due("isKey(23) with the interval 24", late.isKey(23), false);
  }

  private void rate() {
    // Black has 36 bytes as a KEY, a tiled canvas 9 as a DELTA behind itself.
    int[][] key = {{9, 11}, {10, 8}, {16, 8}, {17, 7}, {0, 8}};
    for (int[] row : key) {
      GreyReel x = new GreyReel();
      x.setTarget(row[0]);
      x.code();
      due("step() behind a KEY with the target " + row[0], x.step(), row[1]);
    }
    int[][] delta = {{7, 6}, {8, 4}, {12, 4}, {13, 3}, {0, 4}};
    for (int[] row : delta) {
      GreyReel x = Paint.tiled();
      x.code();
      x.setTarget(row[0]);
      x.code();
      due("step() behind a DELTA with the target " + row[0], x.step(), row[1]);
    }
    rateOnTheEdge();
    GreyReel top = new GreyReel();
    top.setTarget(1);
    top.setStep(50);
    top.code();
    due("step() at the top", top.step(), 60);
    due("stepOf(0)", top.stepOf(0), 50);
    top.code();
    due("step() stays at the top", top.step(), 60);
    due("stepOf(1)", top.stepOf(1), 60);
    GreyReel least = new GreyReel();
    least.setTarget(400);
    least.setStep(2);
    least.code();
    due("step() goes down", least.step(), 1);
    least.code();
    due("step() stays at 1", least.step(), 1);
  }

  /** KEYs of 15 * n bytes, which are five quarters of three times the target 4 * n. */
  private void rateOnTheEdge() {
    int found = 0;
    for (int seed = 0; seed < 200; seed++) {
      GreyReel x = new GreyReel();
      x.noise(seed, 30);
      int bytes = x.bytesWith(8);
      if (bytes % 15 == 0) {
        found++;
        x.setTarget(bytes / 15 * 4);
        x.code();
        due("step() behind a KEY of just five quarters, " + bytes, x.step(), 8);
        x = new GreyReel();
        x.noise(seed, 30);
        x.setTarget(bytes / 15 * 4 - 1);
        x.code();
        due("step() behind a KEY of more, " + bytes, x.step(), 11);
      }
    }
    checks.holds("some KEYs of 15 * n bytes", found > 0);
  }

  private void promises14To17Pictures() {
    GreyReel x = painted();
    for (int i = 0; i < 3; i++) {
      due("pictures()", x.pictures(), i);
      x.setStep(10 + i);
      due("step()", x.step(), 10 + i);
      x.code();
    }
    for (int i = 0; i < 3; i++) {
      due("isKey(" + i + ")", x.isKey(i), i == 0);
      due("stepOf(" + i + ")", x.stepOf(i), 10 + i);
    }
  }

  private void promises18To22Blocks() {
    GreyReel x = new GreyReel();
    x.code();
    for (int block = 0; block < 12; block++) {
      due("kindOf(0, " + block + ") of black", x.kindOf(0, block), 2);
      due("levels(0, " + block + ") of black", x.levels(0, block), block % 4 == 0 ? 4 : 0);
      due("vectorX(0, " + block + ") of FLAT", x.vectorX(0, block), 0);
      due("vectorY(0, " + block + ") of FLAT", x.vectorY(0, block), 0);
    }
    // S(0, 0) is -16 * 128, its level -(2048 + 10) / 32.
    due("levelAt(0, 4, 3, 0) of black", x.levelAt(0, 4, 3, 0), -64);
    due("levelAt(0, 4, 3, 1) of black", x.levelAt(0, 4, 3, 1), 0);
    due("levelAt(0, 5, 0, 0) of black", x.levelAt(0, 5, 0, 0), 0);
    x.code();
    GreyReel still = Paint.tiled();
    still.code();
    still.code();
    for (int block = 0; block < 12; block++) {
      due("kindOf(1, " + block + ") of tiles again", still.kindOf(1, block), 0);
      due("levels(1, " + block + ") of tiles again", still.levels(1, block), 0);
    }
  }

  private void foretelling() {
    GreyReel x = painted();
    x.setSmoothing(false);
    x.setStep(1);
    x.code();
    x.shift(3, -2);
    x.code();
    due("kindOf(1, 5) of what has moved", x.kindOf(1, 5) <= 1, true);
    due("vectorX(1, 5) of what has moved", x.vectorX(1, 5), -6);
    due("vectorY(1, 5) of what has moved", x.vectorY(1, 5), 4);
    GreyReel half = new GreyReel();
    half.setSmoothing(false);
    half.setStep(1);
    half.ramp(20, 16, 0);
    half.code();
    half.ramp(1, 0, 0);
    half.code();
    // A slope of 2 a point, made brighter by 1, is that slope half a point further on.
    due("vectorX(1, 5) by half a point", half.vectorX(1, 5), 1);
    due("kindOf(1, 6) by half a point, as expected", half.kindOf(1, 6), 0);
    due("vectorX(1, 6) of a SKIP", half.vectorX(1, 6), 1);
    GreyReel stripes = new GreyReel();
    for (int y = 0; y < 24; y++) {
      stripes.box(0, y, 32, 1, y % 2 == 0 ? 40 : 200);
    }
    stripes.code();
    due("kindOf(0, 0) of stripes", stripes.kindOf(0, 0), 2);
    due("kindOf(0, 1) of stripes", stripes.kindOf(0, 1), 3);
    GreyReel slope = new GreyReel();
    slope.setStep(1);
    slope.ramp(10, 40, 0);
    slope.code();
    due("kindOf(0, 4) of a slope", slope.kindOf(0, 4), 2);
    due("kindOf(0, 5) of a slope", slope.kindOf(0, 5), 4);
    due("priceOf(5) of a slope, as a KEY", priceOfKey(slope, 5), 2);
  }

  private static int priceOfKey(GreyReel x, int block) {
    x.askKey();
    return x.priceOf(block);
  }

  private void keyAfterAll() {
    GreyReel y = new GreyReel();
    y.code();
    y.fill(200);
    int bytes = y.bytesWith(8);
    int price = y.priceOf(0);
    due("code() of another grey", y.code(), bytes);
    due("isKey(1) of another grey", y.isKey(1), true);
    due("kinds(1, 2) of another grey", y.kinds(1, 2), 12);
    due("its first block's price", price, 64 * 72 + 8);
    for (int fresh = 8; fresh <= 9; fresh++) {
      GreyReel x = Paint.tiled();
      x.code();
      x.box(0, 0, 32, 16, 128);
      if (fresh == 9) {
        x.box(0, 16, 8, 8, 128);
      }
      boolean wasDue = x.priceOf(9) != 8;
      x.code();
      due("isKey(1) with new blocks, " + fresh, x.isKey(1), fresh > 8);
      due("a price of it, other than that of SKIP, " + fresh, wasDue, fresh > 8);
      due("kinds(1, 0) with new blocks, " + fresh, x.kinds(1, 0), fresh > 8 ? 0 : 4);
      x.setInterval(2);
      due("askKey() behind it, " + fresh, x.askKey(), fresh == 8);
    }
  }

  private void smoothing() {
    GreyReel x = new GreyReel();
    x.setStep(4);
    x.fill(90);
    x.box(16, 0, 16, 24, 102);
    x.code();
    x.setSmoothing(false);
    x.askKey();
    x.code();
    due("resultAt(1, 15, 5) as it is", x.resultAt(1, 15, 5), 90);
    due("resultAt(1, 16, 5) as it is", x.resultAt(1, 16, 5), 102);
    // 12 is not above 2 * (4 + 2): e is 3.
    due("resultAt(0, 15, 5) smoothed", x.resultAt(0, 15, 5), 93);
    due("resultAt(0, 16, 5) smoothed", x.resultAt(0, 16, 5), 99);
    due("resultAt(0, 14, 5)", x.resultAt(0, 14, 5), 90);
    due("resultAt(0, 17, 5)", x.resultAt(0, 17, 5), 102);
    due("errorOf(0)", x.errorOf(0), 2 * 9 * 24);
    due("errorOf(1)", x.errorOf(1), 0);
    GreyReel steep = new GreyReel();
    steep.setStep(4);
    steep.fill(90);
    steep.box(16, 0, 16, 24, 104);
    steep.code();
    due("resultAt(0, 15, 5), too steep", steep.resultAt(0, 15, 5), 90);
    GreyReel lines = new GreyReel();
    lines.setStep(4);
    lines.fill(102);
    lines.box(0, 8, 32, 16, 90);
    lines.code();
    due("resultAt(0, 5, 7) smoothed", lines.resultAt(0, 5, 7), 99);
    due("resultAt(0, 5, 8) smoothed", lines.resultAt(0, 5, 8), 93);
    due("errorOf(0) of lines", lines.errorOf(0), 2 * 9 * 32);
  }

  private void promises23And24Results() {
    GreyReel x = new GreyReel();
    x.box(31, 23, 1, 1, 255);
    x.setStep(1);
    x.setSmoothing(false);
    x.code();
    due("resultAt(0, 31, 23)", x.resultAt(0, 31, 23), 255);
    due("resultAt(0, 0, 0)", x.resultAt(0, 0, 0), 0);
    due("errorOf(0) with the step 1", x.errorOf(0), 0);
    GreyReel rough = rough();
    int sum = 0;
    for (int y = 0; y < 24; y++) {
      // An object alike for each line, as no object is asked more than 512 times.
      GreyReel asked = rough();
      for (int at = 0; at < 32; at++) {
        int off = asked.canvasAt(at, y) - asked.resultAt(0, at, y);
        sum += off * off;
      }
    }
    due("errorOf(0) of what is painted", rough.errorOf(0), sum);
    checks.holds("errorOf(0) is something", sum > 0);
    rough.fill(0);
    due("errorOf(0) is of the canvas as it was", rough.errorOf(0), sum);
  }

  private static GreyReel rough() {
    GreyReel x = painted();
    x.setStep(30);
    return Paint.coded(x);
  }

  private void promises25To27Packets() {
    GreyReel black = new GreyReel();
    black.code();
    GreyReel x = Paint.tiled();
    x.code();
    x.code();
    // Number, KEY, q, smoothing; FLAT at place 2; four times one level, f of -64 is 128: once long,
    // then with k 6, 6 and 7; then FLAT at place 0 and no levels, three times.
    String key = "00000" + "1" + "001000" + "1" + "110"
        + "10" + "111111111111" + "000010000000" + "10" + "110000000" + "10" + "110000000"
        + "10" + "100000000" + "00000".repeat(3);
    String delta = "00001" + "0" + "000100" + "0" + "0000";
    for (int band = 0; band < 3; band++) {
      packet(black, 0, band, key);
      packet(x, 1, band, delta);
    }
  }

  private void packet(GreyReel x, int picture, int band, String bits) {
    String where = "(" + picture + ", " + band + ")";
    due("bits" + where, x.bits(picture, band), bits.length());
    due("bytes" + where, x.bytes(picture, band), (bits.length() + 7) / 8);
    String padded = bits + "0".repeat((8 - bits.length() % 8) % 8);
    for (int place = 0; place < padded.length() / 8; place++) {
      int want = Integer.parseInt(padded.substring(8 * place, 8 * place + 8), 2);
      due("byteAt" + where + " " + place, x.byteAt(picture, band, place), want);
    }
  }

  private void promise28Kinds() {
    GreyReel black = new GreyReel();
    black.code();
    GreyReel x = Paint.tiled();
    x.code();
    x.code();
    for (int kind = 0; kind < 5; kind++) {
      due("kinds(0, " + kind + ") of black", black.kinds(0, kind), kind == 2 ? 12 : 0);
      due("kinds(1, " + kind + ") of tiles again", x.kinds(1, kind), kind == 0 ? 12 : 0);
    }
  }

  private void promises29And30And35Handing() {
    GreyReel x = new GreyReel();
    x.code();
    x.code();
    due("hand(0, 1)", x.hand(0, 1), true);
    due("hand(0, 1) once more", x.hand(0, 1), false);
    due("hasGot(0, 1)", x.hasGot(0, 1), true);
    due("hasGot(0, 0)", x.hasGot(0, 0), false);
    due("hasGot(1, 1)", x.hasGot(1, 1), false);
    due("handAll(0) of the two others", x.handAll(0), 2);
    due("handAll(0) of none", x.handAll(0), 0);
    due("hand(1, 2) ahead of its turn", x.hand(1, 2), true);
    x.show();
    x.show();
    due("hand(1, 0), too late", x.hand(1, 0), false);
    due("handAll(1), too late", x.handAll(1), 0);
    due("hasGot(1, 0), too late", x.hasGot(1, 0), false);
    due("hasGot(1, 2), shown", x.hasGot(1, 2), true);
  }

  private void promises31To34Showing() {
    GreyReel x = new GreyReel();
    x.code();
    x.hand(0, 1);
    due("show() with a band of three", x.show(), 2);
    due("shown()", x.shown(), 1);
    due("shownAt(5, 7), concealed", x.shownAt(5, 7), 128);
    due("shownAt(5, 8), got", x.shownAt(5, 8), 0);
    due("shownAt(5, 15), got", x.shownAt(5, 15), 0);
    due("shownAt(5, 16), concealed", x.shownAt(5, 16), 128);
    due("drift()", x.drift(), 512 * 128);
    due("shown() then", x.shown(), 1);
    GreyReel y = Paint.tiled();
    due("drift() at first", y.drift(), 0);
    y.code();
    y.hand(0, 1);
    y.show();
    int drift = y.drift();
    int apart = 0;
    for (int at = 0; at < 48; at++) {
      boolean isConcealed = at / 8 < 2 || at / 8 > 3;
      apart += isConcealed ? 16 * Math.abs(Paint.tile(at % 8, at / 8) - 128) : 0;
    }
    due("drift() of tiles", drift, apart);
    y.code();
    y.handAll(1);
    due("show() of a DELTA on a wrong way", y.show(), 0);
    due("drift() stays", y.drift(), drift);
    y.code();
    due("show() without a packet", y.show(), 3);
    due("drift() stays then", y.drift(), drift);
    y.askKey();
    y.code();
    y.handAll(3);
    due("show() of a KEY", y.show(), 0);
    due("drift() behind a KEY", y.drift(), 0);
    due("shown()", y.shown(), 4);
  }

  private void concealment() {
    GreyReel x = painted();
    x.setSmoothing(false);
    x.setStep(1);
    x.code();
    x.handAll(0);
    x.show();
    x.shift(3, 0);
    x.code();
    due("vectorX(1, 2)", x.vectorX(1, 2), -6);
    x.hand(1, 0);
    due("driftNext() is drift()", x.driftNext() == driftBehind(x), true);
    // Band 1 goes along with the blocks above it; band 2, below one that was lost, stays.
    due("shownAt(22, 10) has moved", x.shownAt(22, 10), x.resultAt(0, 19, 10));
    due("shownAt(22, 20) has not", x.shownAt(22, 20), x.resultAt(0, 22, 20));
    GreyReel seam = new GreyReel();
    seam.setStep(4);
    seam.fill(120);
    seam.code();
    seam.hand(0, 1);
    seam.setSmoothing(false);
    seam.show();
    seam.setSmoothing(true);
    // 128 above 120: the seam is smoothed by 2, as a packet was got.
    due("shownAt(3, 7) of a picture got in part", seam.shownAt(3, 7), 126);
    due("shownAt(3, 8) of a picture got in part", seam.shownAt(3, 8), 122);
    due("shownAt(3, 16) of a picture got in part", seam.shownAt(3, 16), 126);
    seam.code();
    seam.show();
    due("shownAt(3, 7), none got: not smoothed", seam.shownAt(3, 7), 126);
    GreyReel plain = new GreyReel();
    plain.setSmoothing(false);
    plain.setStep(4);
    plain.fill(120);
    plain.code();
    plain.hand(0, 1);
    plain.setSmoothing(true);
    plain.show();
    due("shownAt(3, 7), not smoothed as the picture was not", plain.shownAt(3, 7), 128);
    due("shownAt(3, 8), not smoothed as the picture was not", plain.shownAt(3, 8), 120);
  }

  private static int driftBehind(GreyReel x) {
    x.show();
    return x.drift();
  }

  private void promises36And37WouldBe() {
    GreyReel x = painted();
    x.code();
    x.shift(1, 1);
    x.noise(77, 3);
    long before = x.digest();
    int[] bytes = new int[61];
    for (int q = 1; q <= 60; q++) {
      bytes[q] = x.bytesWith(q);
    }
    due("digest() behind bytesWith()", x.digest(), before);
    due("step() behind bytesWith()", x.step(), 8);
    x.setStep(13);
    int price = x.priceOf(7);
    due("code() with the step 13", x.code(), bytes[13]);
    checks.holds("a price of a block", price > 13);
    GreyReel black = new GreyReel();
    due("bytesWith(8) of black", black.bytesWith(8), 36);
    due("priceOf(0) of black", black.priceOf(0), 64 * 128 + 8);
    due("priceOf(1) of black", black.priceOf(1), 8);
    black.code();
    due("priceOf(1) of black again, FLAT", black.priceOf(1), 8);
    GreyReel still = Paint.tiled();
    still.code();
    due("priceOf(1) of tiles again, a SKIP", still.priceOf(1), 8);
    due("bytesWith(60) of tiles again", still.bytesWith(60), 9);
    still.setStep(60);
    due("priceOf(1) with the step 60", still.priceOf(1), 120);
    GreyReel full = Paint.full();
  }

  private void promise38DriftNext() {
    GreyReel x = new GreyReel();
    due("driftNext() without pictures", x.driftNext(), -1);
    x.code();
    due("driftNext() with nothing got", x.driftNext(), 768 * 128);
    x.hand(0, 2);
    due("driftNext() with a band got", x.driftNext(), 512 * 128);
    x.handAll(0);
    due("driftNext() with all got", x.driftNext(), 0);
    due("shown() behind driftNext()", x.shown(), 0);
    due("shownAt(0, 0) behind driftNext()", x.shownAt(0, 0), 128);
    x.show();
    due("driftNext() behind the last", x.driftNext(), -1);
  }

  private void promises39And40Sums() {
    GreyReel x = painted();
    due("bytesOfAll() without pictures", x.bytesOfAll(), 0);
    due("meanError() without pictures", x.meanError(), 0.0);
    int bytes = x.code();
    checks.holds("errorOf(0) is something", x.errorOf(0) > 0);
    due("meanError() of one picture", x.meanError(), (double) x.errorOf(0));
    x.noise(5, 9);
    bytes += x.code();
    x.shift(1, 1);
    bytes += x.code();
    due("bytesOfAll()", x.bytesOfAll(), bytes);
    double errors = (double) x.errorOf(0) + x.errorOf(1) + x.errorOf(2);
    due("meanError()", x.meanError(), errors / 3);
  }

  private void runAll() {
    promise1NewObject();
    promise2Fill();
    promise3Box();
    promise4Ramp();
    promise5Noise();
    promise6Shift();
    promise7CanvasAt();
    promises8To11Settings();
    promise12AskKey();
    promise13Code();
    rate();
    promises14To17Pictures();
    promises18To22Blocks();
    foretelling();
    keyAfterAll();
    smoothing();
    promises23And24Results();
    promises25To27Packets();
    promise28Kinds();
    promises29And30And35Handing();
    promises31To34Showing();
    concealment();
    promises36And37WouldBe();
    promise38DriftNext();
    promises39And40Sums();
    checks.end();
  }

  public static void main(String[] args) {
    new PromisesTest().runAll();
  }
}
