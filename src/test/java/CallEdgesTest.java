import java.math.BigInteger;
import java.util.ArrayList;
import java.util.Arrays;
import java.util.List;
import java.util.Set;

/** The edges of each call, promise by promise and sentence by sentence, worked out by hand. */
public final class CallEdgesTest {
  interface Asked {
    Object of(GreyReel x, int[] arguments);
  }

  private final Edges on = new Edges("CallEdgesTest");

  private void due(String what, Object got, Object want) {
    on.due(what, got, want);
  }

  // ---- wrong arguments

  /** Too small, too large, and such as are within the range once they are cut to fewer bits. */
  private static int[] beyond(int least, int most) {
    return new int[] {
      least - 1, most + 1, Integer.MIN_VALUE, Integer.MAX_VALUE, least + 65536, most - 65536,
      Integer.MIN_VALUE + most
    };
  }

  /** Both ends of each argument are taken; beyond them it is refused, and so are all together. */
  private void ranges(String name, Class<? extends RuntimeException> e, Edges.Maker maker,
      int[][] ends, Asked call) {
    int[] least = new int[ends.length];
    int[] most = new int[ends.length];
    for (int i = 0; i < ends.length; i++) {
      least[i] = ends[i][0];
      most[i] = ends[i][1];
    }
    takes(name, maker, least, call);
    takes(name, maker, most, call);
    int[] all = new int[ends.length];
    for (int i = 0; i < ends.length; i++) {
      int[] mixed = least.clone();
      mixed[i] = most[i];
      takes(name, maker, mixed, call);
      for (int wrong : beyond(least[i], most[i])) {
        int[] arguments = (wrong & 1) == 0 ? least.clone() : most.clone();
        arguments[i] = wrong;
        refused(name, e, maker, arguments, call);
      }
      all[i] = least[i] - 1;
    }
    refused(name, e, maker, all, call);
  }

  private void takes(String name, Edges.Maker maker, int[] arguments, Asked call) {
    on.takes(name + Arrays.toString(arguments), maker, x -> call.of(x, arguments));
  }

  private void refused(String name, Class<? extends RuntimeException> e, Edges.Maker maker,
      int[] arguments, Asked call) {
    on.refused(name + Arrays.toString(arguments), e, maker, x -> call.of(x, arguments));
  }

  /** Calls that ask a picture: of three, of none, and of 24. */
  private void ofPictures(String place, String words, String name, int[] mosts, Asked call) {
    on.sentence(place, words);
    int[][] ends = new int[mosts.length + 1][2];
    ends[0][1] = 2;
    for (int i = 0; i < mosts.length; i++) {
      ends[i + 1][1] = mosts[i];
    }
    ranges(name, Edges.INDEX, Paint::busy, ends, call);
    int[] first = new int[ends.length];
    refused(name + " without pictures ", Edges.INDEX, GreyReel::new, first, call);
    int[] last = first.clone();
    last[0] = 23;
    takes(name + " of 24 pictures ", Paint::full, last, call);
    last[0] = 24;
    refused(name + " of 24 pictures ", Edges.INDEX, Paint::full, last, call);
  }

  // ---- Promises 1 to 7: the canvas

  private void newObject() {
    on.sentence("Promise 1", "Creates a coder and a viewer without pictures, with a black canvas.");
    due("its canvas", new GreyReel().fill(0), 0);
    GreyReel x = new GreyReel();
    due("pictures()", x.pictures(), 0);
    due("shown()", x.shown(), 0);
    due("step()", x.step(), 8);
    due("drift()", x.drift(), 0);
    due("driftNext()", x.driftNext(), -1);
    due("bytesOfAll()", x.bytesOfAll(), 0);
    due("meanError()", x.meanError(), 0.0);
    due("askKey()", x.askKey(), true);
    due("setTarget(7)", x.setTarget(7), 0);
    due("setInterval(7)", x.setInterval(7), 12);
    due("setSmoothing(false)", x.setSmoothing(false), true);
    x.fill(9);
    x.code();
    due("another object's pictures", new GreyReel().pictures(), 0);
    due("another object's canvas", new GreyReel().fill(0), 0);
  }

  private void fill() {
    on.sentence("Promise 2", "Returns how many points were other ones.");
    GreyReel x = new GreyReel();
    due("fill(0) of black: none", x.fill(0), 0);
    due("fill(255): all", x.fill(255), 768);
    due("fill(255) again: none", x.fill(255), 0);
    x.box(31, 23, 1, 1, 254);
    due("fill(255) with one other", x.fill(255), 1);
    x.box(0, 0, 1, 1, 0);
    due("fill(0) with one that is so", x.fill(0), 767);
    on.sentence("Promise 2", "Throws");
    ranges("fill", Edges.ARGUMENT, Paint::busy, new int[][] {{0, 255}}, (y, a) -> y.fill(a[0]));
  }

  private void box() {
    on.sentence("Promise 3", "as far as they are on the canvas, become a grey");
    // The box, and the points of it on the canvas: the first and the last ones, columns and lines.
    int[][] boxes = {
      {0, 0, 1, 1, 0, 0, 0, 0}, {31, 23, 1, 1, 31, 31, 23, 23}, {-31, -31, 32, 32, 0, 0, 0, 0},
      {31, 23, 32, 32, 31, 31, 23, 23}, {-5, 3, 6, 2, 0, 0, 3, 4}, {30, -7, 9, 8, 30, 31, 0, 0},
      {0, 0, 32, 32, 0, 31, 0, 23}, {-1, -1, 32, 32, 0, 30, 0, 23}, {7, 8, 3, 4, 7, 9, 8, 11}
    };
    for (int[] box : boxes) {
      GreyReel x = new GreyReel();
      int points = (box[5] - box[4] + 1) * (box[7] - box[6] + 1);
      due("points of " + Arrays.toString(box), x.box(box[0], box[1], box[2], box[3], 1), points);
      due("the sum then", x.ramp(0, 0, 0), points);
      due("its first point", x.canvasAt(box[4], box[6]), 1);
      due("its last point", x.canvasAt(box[5], box[7]), 1);
    }
    on.sentence("Promise 3", "Returns how many points it has on the canvas.");
    int[][] outside = {
      {-32, 0, 32, 32}, {32, 0, 32, 32}, {0, -32, 32, 32}, {0, 24, 32, 32}, {0, 32, 32, 32},
      {-1, 0, 1, 1}, {0, -1, 1, 1}, {-32, -32, 1, 1}, {32, 32, 1, 1}, {-3, 5, 3, 1}
    };
    for (int[] box : outside) {
      GreyReel x = new GreyReel();
      due("none of " + Arrays.toString(box), x.box(box[0], box[1], box[2], box[3], 1), 0);
      due("the sum then", x.ramp(0, 0, 0), 0);
    }
    GreyReel same = new GreyReel();
    due("points that were so already", same.box(3, 3, 4, 5, 0), 20);
    on.sentence("Promise 3", "Throws");
    int[][] ends = {{-32, 32}, {-32, 32}, {1, 32}, {1, 32}, {0, 255}};
    ranges("box", Edges.ARGUMENT, Paint::busy, ends,
        (y, a) -> y.box(a[0], a[1], a[2], a[3], a[4]));
  }

  private void ramp() {
    on.sentence("Promise 4", "what is base + (across * x + down * y) // 8, and clips it");
    int[][] rows = {
      {0, 0, 80, 0, 25, 0, 250}, {0, 0, 80, 0, 26, 0, 255}, {255, 0, 0, -80, 0, 23, 25},
      {255, -255, 0, 0, 0, 0, 0}, {0, 255, 80, 80, 31, 23, 255}, {255, -255, -80, -80, 31, 23, 0},
      {0, 255, -80, -80, 31, 23, 0}, {100, 0, -1, 0, 1, 23, 99}, {100, 0, -1, 0, 8, 0, 99},
      {100, 0, 0, -1, 31, 9, 98}, {100, 0, 1, -1, 5, 6, 99}, {100, 0, 1, 1, 4, 3, 100},
      {100, 0, 1, 1, 4, 4, 101}, {200, 255, -80, 0, 31, 0, 145}, {7, -8, 1, 0, 8, 0, 0}
    };
    for (int[] r : rows) {
      GreyReel x = new GreyReel();
      x.fill(r[0]);
      x.ramp(r[1], r[2], r[3]);
      due("a point of " + Arrays.toString(r), x.canvasAt(r[4], r[5]), r[6]);
    }
    on.sentence("Promise 4", "Returns the sum of all points then.");
    due("ramp(0, 0, 0) of black", new GreyReel().ramp(0, 0, 0), 0);
    due("ramp(255, 80, 80)", new GreyReel().ramp(255, 80, 80), 768 * 255);
    due("ramp(-255, 80, 0)", new GreyReel().ramp(-255, 80, 0), 24 * (5 + 15 + 25 + 35 + 45 + 55));
    due("ramp(0, 80, 0)", new GreyReel().ramp(0, 80, 0), 24 * (10 * 25 * 26 / 2 + 6 * 255));
    due("ramp(0, 0, 8)", new GreyReel().ramp(0, 0, 8), 32 * 23 * 24 / 2);
    on.sentence("Promise 4", "Throws");
    int[][] ends = {{-255, 255}, {-80, 80}, {-80, 80}};
    ranges("ramp", Edges.ARGUMENT, Paint::busy, ends, (y, a) -> y.ramp(a[0], a[1], a[2]));
  }

  private void noise() {
    on.sentence("Promise 5", "r becomes (r * 1103 + 12345) % 65536");
    // 12345 >> 4 is 771, % 121 is 45; 65535 becomes 11242, >> 4 is 702, % 121 is 97.
    int[][] rows = {
      {100, 0, 60, 100 + 45 - 60}, {100, 65535, 60, 100 + 97 - 60}, {0, 0, 60, 0},
      {15, 0, 60, 0}, {16, 0, 60, 1}, {255, 65535, 60, 255}, {218, 65535, 60, 255},
      {217, 65535, 60, 254}, {100, 0, 1, 100 + 0 - 1}, {100, 65535, 0, 100}
    };
    for (int[] r : rows) {
      GreyReel x = new GreyReel();
      x.fill(r[0]);
      x.noise(r[1], r[2]);
      due("the first point of " + Arrays.toString(r), x.canvasAt(0, 0), r[3]);
    }
    on.sentence("Promise 5", "Returns r behind all points.");
    for (int seed : new int[] {0, 1, 65535, 41300}) {
      BigInteger r = BigInteger.valueOf(seed);
      GreyReel x = new GreyReel();
      x.fill(100);
      int answer = x.noise(seed, 60);
      for (int at = 0; at < 768; at++) {
        r = r.multiply(BigInteger.valueOf(1103)).add(BigInteger.valueOf(12345));
        r = r.mod(BigInteger.valueOf(65536));
        if (at % 2 == 0) {
          int grey = 100 + r.intValue() / 16 % 121 - 60;
          due("point " + at + " of " + seed, x.canvasAt(at % 32, at / 32), grey);
        }
      }
      due("noise(" + seed + ", 60)", answer, r.intValue());
      due("noise(" + seed + ", 0)", x.noise(seed, 0), r.intValue());
    }
    on.sentence("Promise 5", "Throws");
    int[][] ends = {{0, 65535}, {0, 60}};
    ranges("noise", Edges.ARGUMENT, Paint::busy, ends, (y, a) -> y.noise(a[0], a[1]));
  }

  private void shift() {
    on.sentence("Promise 6", "the nearest one on the rim, if that is beyond it");
    for (int[] way : new int[][] {{16, 16}, {-16, -16}, {16, -16}, {-16, 16}, {1, 0}, {0, -1}}) {
      GreyReel x = Paint.busy();
      GreyReel before = Paint.busy();
      x.shift(way[0], way[1]);
      for (int[] p : new int[][] {{0, 0}, {31, 0}, {0, 23}, {31, 23}, {15, 11}, {16, 12}, {3, 20}}) {
        int fromX = Math.max(0, Math.min(31, p[0] - way[0]));
        int fromY = Math.max(0, Math.min(23, p[1] - way[1]));
        due("the point " + Arrays.toString(p) + " moved by " + Arrays.toString(way),
            x.canvasAt(p[0], p[1]), before.canvasAt(fromX, fromY));
      }
    }
    on.sentence("Promise 6", "Returns how many points are other ones then.");
    GreyReel x = Paint.busy();
    due("shift(0, 0)", x.shift(0, 0), 0);
    GreyReel corner = new GreyReel();
    corner.box(0, 0, 1, 1, 9);
    due("a corner, drawn out", corner.shift(16, 16), 17 * 17 - 1);
    due("back again, all of it but the corner", corner.shift(-16, -16), 17 * 17 - 1);
    due("a corner that goes", corner.shift(-16, -16), 1);
    GreyReel columns = Paint.columns(new GreyReel(), Paint.PROFILE);
    due("columns, moved by lines", columns.shift(0, 16), 0);
    due("columns, moved by one", columns.shift(-1, 0), 31 * 24);
    on.sentence("Promise 6", "Throws");
    int[][] ends = {{-16, 16}, {-16, 16}};
    ranges("shift", Edges.ARGUMENT, Paint::busy, ends, (y, a) -> y.shift(a[0], a[1]));
  }

  private void canvasAt() {
    on.sentence("Promise 7", "Returns the grey of the canvas there.");
    GreyReel x = new GreyReel();
    int[][] corners = {{0, 0, 3}, {31, 0, 255}, {0, 23, 1}, {31, 23, 128}, {0, 1, 77}};
    for (int[] corner : corners) {
      x.box(corner[0], corner[1], 1, 1, corner[2]);
    }
    for (int[] corner : corners) {
      due("a corner", x.canvasAt(corner[0], corner[1]), corner[2]);
    }
    on.sentence("Promise 7", "Throws");
    int[][] ends = {{0, 31}, {0, 23}};
    ranges("canvasAt", Edges.INDEX, Paint::busy, ends, (y, a) -> y.canvasAt(a[0], a[1]));
  }

  // ---- Promises 8 to 15: coding

  private void settings() {
    on.sentence("Promise 8", "Returns the one before.");
    GreyReel x = new GreyReel();
    due("setStep(1)", x.setStep(1), 8);
    due("setStep(60)", x.setStep(60), 1);
    due("setStep(60) again", x.setStep(60), 60);
    x.setTarget(400);
    x.code();
    due("setStep(1) behind the rate", x.setStep(1), 59);
    on.sentence("Promise 8", "Throws");
    ranges("setStep", Edges.ARGUMENT, Paint::busy, new int[][] {{1, 60}}, (y, a) -> y.setStep(a[0]));
    on.sentence("Promise 9", "Returns the one before.");
    GreyReel target = new GreyReel();
    due("setTarget(400)", target.setTarget(400), 0);
    due("setTarget(0)", target.setTarget(0), 400);
    due("setTarget(1)", target.setTarget(1), 0);
    on.sentence("Promise 9", "Throws");
    ranges("setTarget", Edges.ARGUMENT, Paint::busy, new int[][] {{0, 400}},
        (y, a) -> y.setTarget(a[0]));
    on.sentence("Promise 10", "Returns the one before.");
    GreyReel interval = new GreyReel();
    due("setInterval(24)", interval.setInterval(24), 12);
    due("setInterval(1)", interval.setInterval(1), 24);
    due("setInterval(2)", interval.setInterval(2), 1);
    on.sentence("Promise 10", "Throws");
    ranges("setInterval", Edges.ARGUMENT, Paint::busy, new int[][] {{1, 24}},
        (y, a) -> y.setInterval(a[0]));
    on.sentence("Promise 11", "Returns whether they were.");
    GreyReel smoothing = new GreyReel();
    due("setSmoothing(true) at first", smoothing.setSmoothing(true), true);
    due("setSmoothing(false)", smoothing.setSmoothing(false), true);
    due("setSmoothing(false) again", smoothing.setSmoothing(false), false);
    due("setSmoothing(true)", smoothing.setSmoothing(true), false);
  }

  private void askKey() {
    on.sentence("Promise 12", "Asks for a KEY: the next picture is one.");
    GreyReel x = Paint.coded(Paint.tiled());
    x.askKey();
    x.askKey();
    x.setInterval(24);
    x.code();
    due("isKey(1), asked for twice", x.isKey(1), true);
    x.code();
    due("isKey(2), not asked for", x.isKey(2), false);
    on.sentence("Promise 12", "(with 24 pictures: as if one more were to come)");
    due("as the first one", new GreyReel().askKey(), true);
    GreyReel asked = Paint.coded(Paint.tiled());
    due("as none", asked.askKey(), false);
    due("as one was asked for", asked.askKey(), true);
    GreyReel interval = Paint.coded(Paint.coded(Paint.tiled()));
    interval.setInterval(2);
    due("by the interval", interval.askKey(), true);
    GreyReel every = Paint.coded(Paint.tiled());
    every.setInterval(1);
    due("by the interval 1", every.askKey(), true);
    GreyReel notYet = Paint.coded(Paint.coded(Paint.tiled()));
    notYet.setInterval(3);
    due("not by the interval yet", notYet.askKey(), false);
    // All fresh: it would be a KEY after all, but was not to be one.
    GreyReel fresh = Paint.coded(Paint.tiled());
    fresh.fill(128);
    due("a KEY after all", fresh.askKey(), false);
    for (int interval24 = 11; interval24 <= 13; interval24++) {
      GreyReel full = Paint.full();
      full.setInterval(interval24);
      due("with 24 pictures, 11 DELTAs, the interval " + interval24, full.askKey(),
          interval24 <= 12);
      due("with 24 pictures, asked before", full.askKey(), true);
    }
  }

  private void code() {
    on.sentence("Promise 13", "Codes the canvas as the next picture.");
    GreyReel x = Paint.exact();
    for (int grey = 0; grey <= 255; grey += 255) {
      x.fill(grey);
      x.code();
    }
    due("resultAt(0, 0, 0)", x.resultAt(0, 0, 0), 0);
    due("resultAt(1, 31, 23)", x.resultAt(1, 31, 23), 255);
    due("the canvas stays", x.fill(255), 0);
    on.sentence("Promise 13", "Returns how many bytes its packets have together.");
    GreyReel busy = Paint.busy();
    due("code()", busy.code(), busy.bytes(3, 0) + busy.bytes(3, 1) + busy.bytes(3, 2));
    GreyReel last = Paint.tiled();
    for (int picture = 0; picture < 23; picture++) {
      last.code();
    }
    due("code() of the last one", last.code(), 9);
    on.sentence("Promise 13", "Throws");
    on.takes("code() of the first picture", GreyReel::new, GreyReel::code);
    on.refused("code() with 24 pictures", Edges.STATE, Paint::full, GreyReel::code);
    on.refused("code() with 24 pictures, all shown", Edges.STATE, CallEdgesTest::all24Shown,
        GreyReel::code);
    on.sentence("Promise 14", "Returns how many pictures were coded.");
    due("of none", new GreyReel().pictures(), 0);
    due("of three", Paint.busy().pictures(), 3);
    due("of all", Paint.full().pictures(), 24);
    on.sentence("Promise 15", "Returns the step q for the next picture.");
    due("at first", new GreyReel().step(), 8);
    GreyReel step = Paint.tiled();
    step.setStep(60);
    due("set", step.step(), 60);
    step.setTarget(1);
    step.code();
    due("behind the rate, at most", step.step(), 60);
    due("stepOf the picture", step.stepOf(0), 60);
    due("with 24 pictures", Paint.full().step(), 4);
  }

  // ---- Promises 16 to 28: pictures, asked

  private void ofAPicture() {
    on.sentence("Promise 16", "Returns whether it is a KEY.");
    GreyReel full = Paint.full();
    for (int picture = 0; picture < 24; picture++) {
      due("isKey(" + picture + ")", full.isKey(picture), picture % 12 == 0);
    }
    ofPictures("Promise 16", "Throws", "isKey", new int[0], (x, a) -> x.isKey(a[0]));
    on.sentence("Promise 17", "Returns its q.");
    GreyReel x = new GreyReel();
    for (int q : new int[] {1, 60, 17}) {
      x.setStep(q);
      x.code();
      due("stepOf", x.stepOf(x.pictures() - 1), q);
    }
    due("stepOf(0), behind others", x.stepOf(0), 1);
    ofPictures("Promise 17", "Throws", "stepOf", new int[0], (y, a) -> y.stepOf(a[0]));
    on.sentence("Promise 24", "Returns the sum of the squares of what was coded less its RESULT");
    GreyReel exact = Paint.columns(Paint.exact(), Paint.PROFILE);
    exact.code();
    due("errorOf a picture that is its RESULT", exact.errorOf(0), 0);
    // Points of 9 above 128 have no level with the step 60.
    for (int grey : new int[] {119, 137}) {
      GreyReel off = Paint.exact();
      off.setStep(60);
      off.fill(grey);
      off.code();
      due("errorOf a picture that is off by 9", off.errorOf(0), 768 * 81);
    }
    GreyReel corner = Paint.exact();
    corner.setStep(60);
    corner.fill(128);
    corner.box(31, 23, 1, 1, 200);
    corner.code();
    due("errorOf a picture that is off in its last point", corner.errorOf(0), 72 * 72);
    ofPictures("Promise 24", "Throws", "errorOf", new int[0], (y, a) -> y.errorOf(a[0]));
  }

  private void ofABlock() {
    int[] blocks = {11};
    on.sentence("Promise 18", "Returns its KIND, 0 to 4.");
    GreyReel x = Paint.exact();
    Paint.columns(x, 128, 128, 128, 128, 132);
    for (int at = 8; at < 24; at++) {
      x.box(at, 0, 32, 24, 125 + at);
    }
    for (int y = 0; y < 24; y++) {
      x.box(24, y, 8, 1, y % 2 == 0 ? 50 : 90);
      x.box(16, y, 8, 1, y % 2 == 0 ? 50 : 90);
    }
    x.code();
    for (int band = 0; band < 3; band++) {
      String kinds = x.kindOf(0, 4 * band) + " " + x.kindOf(0, 4 * band + 1) + " "
          + x.kindOf(0, 4 * band + 3);
      due("kinds of a KEY", kinds, "2 4 3");
    }
    x.shift(1, 0);
    x.code();
    due("kindOf(1, 0)", x.kindOf(1, 0), 1);
    due("kindOf(1, 1)", x.kindOf(1, 1), 0);
    ofPictures("Promise 18", "Throws", "kindOf", blocks, (y, a) -> y.kindOf(a[0], a[1]));
    on.sentence("Promise 19", "Returns its vx; 0 if it is not SKIP or MOVED.");
    vector(true);
    ofPictures("Promise 19", "Throws", "vectorX", blocks, (y, a) -> y.vectorX(a[0], a[1]));
    on.sentence("Promise 20", "Returns its vy; 0 if it is not SKIP or MOVED.");
    vector(false);
    ofPictures("Promise 20", "Throws", "vectorY", blocks, (y, a) -> y.vectorY(a[0], a[1]));
  }

  private void vector(boolean isX) {
    for (int sign = -1; sign <= 1; sign += 2) {
      GreyReel x = Paint.coded(Paint.tiled());
      x.shift(-3 * sign, -3 * sign);
      x.box(0, 8, 16, 8, 128);
      x.code();
      for (int block = 0; block < 12; block++) {
        boolean hasVector = x.kindOf(1, block) < 2;
        int got = isX ? x.vectorX(1, block) : x.vectorY(1, block);
        due("of block " + block, got, hasVector ? 6 * sign : 0);
        due("of block " + block + " of a KEY", isX ? x.vectorX(0, block) : x.vectorY(0, block), 0);
      }
      due("kindOf(1, 5)", x.kindOf(1, 5), 2);
      due("kindOf(1, 0)", x.kindOf(1, 0), 1);
      due("kindOf(1, 3)", x.kindOf(1, 3), 0);
    }
  }

  private void levels() {
    on.sentence("Promise 21", "Returns how many of its levels are not 0.");
    GreyReel none = Paint.exact();
    none.fill(128);
    none.code();
    due("none", none.levels(0, 0), 0);
    // Single points with the sum 3 or -3 everywhere: a level of 1 or -1 at each place.
    GreyReel all = Paint.exact();
    all.fill(128);
    all.box(0, 0, 1, 1, 131);
    all.box(4, 0, 1, 1, 125);
    all.box(0, 4, 1, 1, 131);
    all.box(7, 7, 1, 1, 125);
    all.code();
    due("all", all.levels(0, 0), 64);
    due("those of the next block", all.levels(0, 2), 0);
    ofPictures("Promise 21", "Throws", "levels", new int[] {11}, (y, a) -> y.levels(a[0], a[1]));
    on.sentence("Promise 22", "Returns the level there.");
    due("levelAt(0, 0, 0, 0)", all.levelAt(0, 0, 0, 0), 1);
    due("levelAt(0, 0, 1, 15)", all.levelAt(0, 0, 1, 15), -1);
    due("levelAt(0, 0, 3, 0)", all.levelAt(0, 0, 3, 0), -1);
    // w(0, 3) and w(1, 3) are 1 and -1.
    due("levelAt(0, 0, 3, 1)", all.levelAt(0, 0, 3, 1), 1);
    due("levelAt(0, 11, 3, 15)", all.levelAt(0, 11, 3, 15), 0);
    ofPictures("Promise 22", "Throws", "levelAt", new int[] {11, 3, 15},
        (y, a) -> y.levelAt(a[0], a[1], a[2], a[3]));
    on.sentence("Promise 23", "Returns the grey of its RESULT there.");
    for (int[] corner : new int[][] {{0, 0}, {31, 0}, {0, 23}, {31, 23}}) {
      GreyReel x = Paint.exact();
      x.fill(128);
      x.box(corner[0], corner[1], 1, 1, 255);
      x.code();
      x.fill(3);
      x.code();
      due("a corner", x.resultAt(0, corner[0], corner[1]), 255);
      due("another point", x.resultAt(0, 31 - corner[0], corner[1]), 128);
      due("the corner in the next picture", x.resultAt(1, corner[0], corner[1]), 3);
    }
    ofPictures("Promise 23", "Throws", "resultAt", new int[] {31, 23},
        (y, a) -> y.resultAt(a[0], a[1], a[2]));
  }

  private void ofABand() {
    int[] bands = {2};
    GreyReel x = Paint.coded(Paint.coded(Paint.tiled()));
    on.sentence("Promise 25", "Returns how many bytes its packet has.");
    for (int band = 0; band < 3; band++) {
      due("bytes(1, " + band + ") of SKIPs", x.bytes(1, band), 3);
      int bits = x.bits(0, band);
      due("bytes(0, " + band + ") of tiles", x.bytes(0, band), bits / 8 + (bits % 8 == 0 ? 0 : 1));
    }
    ofPictures("Promise 25", "Throws", "bytes", bands, (y, a) -> y.bytes(a[0], a[1]));
    on.sentence("Promise 26", "those that fill the last byte not counted");
    for (int band = 0; band < 3; band++) {
      due("bits(1, " + band + ") of SKIPs", x.bits(1, band), 13 + 4);
    }
    GreyReel flat = new GreyReel();
    flat.fill(128);
    flat.code();
    due("bits(0, 0) of FLATs without levels", flat.bits(0, 0), 13 + 3 + 3 + 16);
    ofPictures("Promise 26", "Throws", "bits", bands, (y, a) -> y.bits(a[0], a[1]));
    on.sentence("Promise 27", "Returns the byte, 0 to 255.");
    // 00001 0 000100 0, then four times 0 and seven to fill.
    for (int band = 0; band < 3; band++) {
      due("byteAt(1, " + band + ", 0)", x.byteAt(1, band, 0), 8);
      due("byteAt(1, " + band + ", 1)", x.byteAt(1, band, 1), 64);
      due("byteAt(1, " + band + ", 2)", x.byteAt(1, band, 2), 0);
    }
    due("a byte of ones, not less than 0", ones(), 255);
    ofPictures("Promise 27", "Throws", "byteAt", bands, (y, a) -> y.byteAt(a[0], a[1], 0));
    for (int band = 0; band < 3; band++) {
      int place = band;
      on.takes("the last byte", Paint::full, y -> y.byteAt(1, place, 2));
      for (int wrong : new int[] {-1, 3, Integer.MIN_VALUE, Integer.MAX_VALUE}) {
        on.refused("byteAt(1, " + band + ", " + wrong + ")", Edges.INDEX, Paint::full,
            y -> y.byteAt(1, place, wrong));
      }
      int length = Paint.busy().bytes(0, band);
      on.takes("the last byte of a KEY", Paint::busy, y -> y.byteAt(0, place, length - 1));
      on.refused("the byte behind it", Edges.INDEX, Paint::busy, y -> y.byteAt(0, place, length));
    }
  }

  /** The largest byte of rough pictures, in which many numbers begin with twelve bits 1. */
  private static int ones() {
    int largest = 0;
    for (int seed = 0; seed < 9; seed++) {
      GreyReel x = Paint.exact();
      x.noise(seed, 60);
      x.code();
      for (int place = 0; place < x.bytes(0, 0) && place < 400; place++) {
        largest = Math.max(largest, x.byteAt(0, 0, place));
      }
    }
    return largest;
  }

  private void kinds() {
    on.sentence("Promise 28", "Returns how many of its blocks are of a kind.");
    GreyReel x = Paint.coded(Paint.tiled());
    x.shift(1, 0);
    x.code();
    int[] counts = {9, 3, 0, 0, 0};
    GreyReel lines = Paint.coded(Paint.lines(Paint.exact(), Paint.alternating(40, 200)));
    int[] ofLines = {0, 0, 3, 9, 0};
    int sum = 0;
    for (int kind = 0; kind < 5; kind++) {
      due("kinds(1, " + kind + ") of tiles moved", x.kinds(1, kind), counts[kind]);
      due("kinds(0, " + kind + ") of lines", lines.kinds(0, kind), ofLines[kind]);
      sum += x.kinds(0, kind);
    }
    due("kinds of all blocks", sum, 12);
    ofPictures("Promise 28", "Throws", "kinds", new int[] {4}, (y, a) -> y.kinds(a[0], a[1]));
  }

  // ---- Promises 29 to 35: the viewer

  private void hand() {
    on.sentence("Promise 29", "once more if it has got it");
    GreyReel x = Paint.coded(Paint.coded(Paint.tiled()));
    due("hand(0, 2)", x.hand(0, 2), true);
    due("hand(0, 2) once more", x.hand(0, 2), false);
    due("hasGot(0, 2) then", x.hasGot(0, 2), true);
    on.sentence("Promise 29", "whether it has not shown that picture yet, and had not got this packet");
    due("hand(0, 0)", x.hand(0, 0), true);
    due("hand(1, 0), not its turn yet", x.hand(1, 0), true);
    x.show();
    due("hand(0, 1), shown, not got", x.hand(0, 1), false);
    due("hand(0, 2), shown and got", x.hand(0, 2), false);
    due("hand(1, 0), got", x.hand(1, 0), false);
    due("hand(1, 2), the next picture", x.hand(1, 2), true);
    x.code();
    due("hand(2, 0), just coded", x.hand(2, 0), true);
    x.show();
    due("hand(1, 1), just shown", x.hand(1, 1), false);
    GreyReel last = Paint.full();
    due("hand(23, 2)", last.hand(23, 2), true);
    ofPictures("Promise 29", "Throws", "hand", new int[] {2}, (y, a) -> y.hand(a[0], a[1]));
    on.sentence("Promise 30", "Hands over all packets of a picture.");
    GreyReel all = Paint.full();
    all.handAll(23);
    for (int band = 0; band < 3; band++) {
      due("hasGot(23, " + band + ")", all.hasGot(23, band), true);
      due("hasGot(22, " + band + ")", all.hasGot(22, band), false);
    }
    on.sentence("Promise 30", "Returns how many of them the viewer gets.");
    for (int got = 0; got <= 3; got++) {
      GreyReel some = Paint.coded(Paint.tiled());
      for (int band = 0; band < got; band++) {
        some.hand(0, band);
      }
      due("handAll(0), got of it already " + got, some.handAll(0), 3 - got);
      due("handAll(0) again", some.handAll(0), 0);
    }
    GreyReel late = Paint.coded(Paint.tiled());
    late.show();
    due("handAll(0), shown", late.handAll(0), 0);
    ofPictures("Promise 30", "Throws", "handAll", new int[0], (y, a) -> y.handAll(a[0]));
  }

  private void show() {
    on.sentence("Promise 31", "Lets the viewer show the next picture.");
    GreyReel x = Paint.full();
    for (int picture = 0; picture < 24; picture++) {
      x.handAll(picture);
      x.show();
      due("shown() behind " + picture, x.shown(), picture + 1);
    }
    due("shownAt(9, 9)", x.shownAt(9, 9), Paint.tile(2, 2));
    on.sentence("Promise 31", "Returns how many bands of it it conceals.");
    for (int got = 0; got <= 3; got++) {
      GreyReel some = Paint.coded(Paint.tiled());
      for (int band = 2; band > 2 - got; band--) {
        some.hand(0, band);
      }
      due("show(), packets got " + got, some.show(), 3 - got);
    }
    on.sentence("Promise 31", "Throws");
    on.refused("show() without pictures", Edges.STATE, GreyReel::new, GreyReel::show);
    on.refused("show() behind the latest", Edges.STATE, CallEdgesTest::allShown, GreyReel::show);
    on.takes("show() of the latest", () -> Paint.coded(allShown()), GreyReel::show);
    on.refused("show() behind 24", Edges.STATE, CallEdgesTest::all24Shown, GreyReel::show);
    on.sentence("Promise 32", "Returns how many pictures the viewer showed.");
    due("none", new GreyReel().shown(), 0);
    due("none of 24", Paint.full().shown(), 0);
    due("one", Paint.busy().shown(), 1);
    due("all", all24Shown().shown(), 24);
  }

  private static GreyReel allShown() {
    GreyReel x = Paint.busy();
    x.show();
    x.show();
    return x;
  }

  private static GreyReel all24Shown() {
    GreyReel x = Paint.full();
    for (int picture = 0; picture < 24; picture++) {
      x.hand(picture, 1);
      x.show();
    }
    return x;
  }

  private void shownAt() {
    on.sentence("Promise 33", "Returns the grey that the viewer shows there; 128 ahead of the first");
    GreyReel x = Paint.exact();
    x.fill(9);
    int[][] corners = {{0, 0}, {31, 0}, {0, 23}, {31, 23}};
    for (int[] corner : corners) {
      x.box(corner[0], corner[1], 1, 1, 255);
      due("a corner ahead of the first picture", x.shownAt(corner[0], corner[1]), 128);
    }
    x.code();
    x.handAll(0);
    due("a corner, not shown yet", x.shownAt(0, 0), 128);
    x.show();
    for (int[] corner : corners) {
      due("a corner shown", x.shownAt(corner[0], corner[1]), x.resultAt(0, corner[0], corner[1]));
    }
    due("a point within", x.shownAt(12, 12), 9);
    on.sentence("Promise 33", "Throws");
    int[][] ends = {{0, 31}, {0, 23}};
    ranges("shownAt", Edges.INDEX, Paint::busy, ends, (y, a) -> y.shownAt(a[0], a[1]));
    ranges("shownAt", Edges.INDEX, GreyReel::new, ends, (y, a) -> y.shownAt(a[0], a[1]));
  }

  private void drift() {
    on.sentence("Promise 34", "0 ahead of the first picture");
    due("drift() at first", new GreyReel().drift(), 0);
    due("drift() with pictures, none shown", Paint.full().drift(), 0);
    for (int grey : new int[] {0, 255}) {
      GreyReel x = Paint.exact();
      x.fill(grey);
      x.code();
      x.show();
      due("drift() of a picture lost", x.drift(), 768 * Math.abs(grey - 128));
      x.fill(128);
      x.askKey();
      x.code();
      due("drift() is of the picture shown", x.drift(), 768 * Math.abs(grey - 128));
    }
    GreyReel corner = Paint.exact();
    corner.fill(128);
    corner.box(0, 23, 1, 1, 0);
    corner.box(31, 0, 1, 1, 255);
    corner.code();
    corner.show();
    due("drift() of two corners", corner.drift(), 128 + 127);
    on.sentence("Promise 35", "Returns whether the viewer has got that packet.");
    GreyReel got = Paint.coded(Paint.coded(Paint.tiled()));
    due("hasGot(1, 2) at first", got.hasGot(1, 2), false);
    got.hand(1, 2);
    due("hasGot(1, 2)", got.hasGot(1, 2), true);
    due("hasGot(1, 1)", got.hasGot(1, 1), false);
    due("hasGot(0, 2)", got.hasGot(0, 2), false);
    got.show();
    got.hand(0, 2);
    due("hasGot(0, 2), handed too late", got.hasGot(0, 2), false);
    got.show();
    due("hasGot(1, 2), shown", got.hasGot(1, 2), true);
    ofPictures("Promise 35", "Throws", "hasGot", new int[] {2}, (y, a) -> y.hasGot(a[0], a[1]));
  }

  // ---- Promises 36 to 41: what would be

  private void bytesWith() {
    on.sentence("Promise 36", "Returns how many bytes code() would tell now, with this step.");
    for (int q : new int[] {1, 2, 30, 59, 60}) {
      GreyReel x = Paint.busy();
      int bytes = x.bytesWith(q);
      long digest = x.digest();
      due("bytesWith(" + q + ") again", x.bytesWith(q), bytes);
      due("digest() behind it", x.digest(), digest);
      x.setStep(q);
      due("code() with the step " + q, x.code(), bytes);
    }
    GreyReel first = new GreyReel();
    first.fill(128);
    due("of the first picture", first.bytesWith(60), 15);
    GreyReel last = Paint.tiled();
    for (int picture = 0; picture < 23; picture++) {
      last.code();
    }
    due("of the last picture", last.bytesWith(1), 9);
    afterAllBytes();
    on.sentence("Promise 36", "Throws IllegalArgumentException");
    ranges("bytesWith", Edges.ARGUMENT, Paint::busy, new int[][] {{1, 60}},
        (y, a) -> y.bytesWith(a[0]));
    on.sentence("Promise 36", "Throws IllegalStateException");
    on.refused("bytesWith(1), full", Edges.STATE, Paint::full, y -> y.bytesWith(1));
    on.refused("bytesWith(60), full", Edges.STATE, Paint::full, y -> y.bytesWith(60));
  }

  /** Whether it is a KEY after all goes by the step that is asked for, not by the one that is set. */
  private void afterAllBytes() {
    for (int q : new int[] {1, 8, 20, 60}) {
      GreyReel x = Paint.coded(Paint.columns(Paint.exact(), 100, 100, 100, 100, 100, 100, 100, 110));
      x.noise(7, 3);
      x.setStep(1);
      int bytes = x.bytesWith(q);
      x.setStep(q);
      due("code() of nearly the same, with the step " + q, x.code(), bytes);
    }
  }

  private void priceOf() {
    on.sentence("Promise 37", "Returns the PRICE of what it would be coded as by code() now");
    GreyReel x = Paint.tiled();
    due("of the first picture, a KEY", x.priceOf(0), priceOfTiles() + 4);
    x.code();
    for (int block = 0; block < 12; block++) {
      due("priceOf(" + block + ") of a SKIP, as MOVED", x.priceOf(block), 2 * 4);
    }
    int asKey = Paint.tiled().priceOf(5);
    on.holds("as a KEY, another one than that of a SKIP", asKey != 8);
    x.askKey();
    due("priceOf(5) as a KEY", x.priceOf(5), asKey);
    for (int fresh : new int[] {8, 9}) {
      GreyReel y = Paint.coded(Paint.tiled());
      for (int block = 0; block < fresh; block++) {
        y.box(block % 4 * 8, block / 4 * 8, 8, 8, 128);
      }
      boolean isSkip = y.priceOf(11) == 8;
      due("priceOf(11), a SKIP, with new blocks " + fresh, isSkip, fresh == 8);
      due("priceOf(0), FLAT, with new blocks " + fresh, y.priceOf(0), 4);
    }
    on.sentence("Promise 37", "Throws IndexOutOfBoundsException");
    ranges("priceOf", Edges.INDEX, Paint::busy, new int[][] {{0, 11}}, (y, a) -> y.priceOf(a[0]));
    ranges("priceOf", Edges.INDEX, GreyReel::new, new int[][] {{0, 11}}, (y, a) -> y.priceOf(a[0]));
    on.sentence("Promise 37", "Throws IllegalStateException");
    on.refused("priceOf(0), full", Edges.STATE, Paint::full, y -> y.priceOf(0));
    on.refused("priceOf(11), full", Edges.STATE, Paint::full, y -> y.priceOf(11));
  }

  /** How far the tiles of block 0 are from 128, over its 64 points. */
  private static int priceOfTiles() {
    int sum = 0;
    for (int quarter = 0; quarter < 4; quarter++) {
      sum += 16 * Math.abs(Paint.tile(quarter % 2, quarter / 2) - 128);
    }
    return sum;
  }

  private void driftNext() {
    on.sentence("Promise 38", "-1 if that picture was not coded yet");
    due("driftNext() without pictures", new GreyReel().driftNext(), -1);
    due("driftNext() with all shown", allShown().driftNext(), -1);
    due("driftNext() with 24 shown", all24Shown().driftNext(), -1);
    for (int bands = 0; bands < 8; bands++) {
      GreyReel x = Paint.busy();
      for (int band = 0; band < 3; band++) {
        if ((bands >> band & 1) == 1) {
          x.hand(1, band);
        }
      }
      long digest = x.digest();
      int would = x.driftNext();
      due("digest() behind driftNext()", x.digest(), digest);
      x.show();
      due("drift() with packets " + bands, x.drift(), would);
    }
    GreyReel full = Paint.full();
    full.handAll(0);
    due("driftNext() with all got", full.driftNext(), 0);
  }

  private void sums() {
    on.sentence("Promise 39", "Returns the sum over all pictures of their bytes.");
    due("bytesOfAll() without pictures", new GreyReel().bytesOfAll(), 0);
    GreyReel x = Paint.tiled();
    int sum = 0;
    for (int picture = 0; picture < 24; picture++) {
      sum += x.code();
      due("bytesOfAll() behind " + picture, x.bytesOfAll(), sum);
    }
    on.sentence("Promise 40", "not cut; 0 without pictures");
    due("meanError() without pictures", new GreyReel().meanError(), 0.0);
    due("meanError() of 24 that are as they were", Paint.full().meanError(), 0.0);
    // One point off by 1, and one or two pictures without an error: 1 / 2, 1 / 3.
    GreyReel y = Paint.exact();
    y.setStep(60);
    y.fill(128);
    y.box(0, 0, 1, 1, 129);
    y.code();
    due("meanError() of one", y.meanError(), 1.0);
    y.fill(128);
    y.askKey();
    y.code();
    due("meanError() of two", y.meanError(), 0.5);
    y.askKey();
    y.code();
    due("meanError() of three", y.meanError(), 1.0 / 3);
    GreyReel most = Paint.exact();
    most.setStep(60);
    double errors = 0;
    for (int picture = 0; picture < 24; picture++) {
      most.fill(119);
      most.code();
      errors += most.errorOf(picture);
    }
    due("meanError() of 24", most.meanError(), errors / 24);
  }

  // ---- Promise 41: the checksum, as a number without bounds, cut to 64 bits at the end

  private void digest() {
    on.sentence("Promise 41", "Computes a checksum.");
    due("of two objects alike", Paint.busy().digest(), Paint.busy().digest());
    on.holds("of others", Paint.busy().digest() != Paint.full().digest());
    GreyReel asked = Paint.busy();
    long first = asked.digest();
    due("asked again", asked.digest(), first);
    on.sentence("Promise 41", "which wraps around as a 64-bit integer");
    List<Integer> empty = new ArrayList<>(List.of(0, 8, 0, 0, 0));
    for (int at = 0; at < 1536; at++) {
      empty.add(at < 768 ? 0 : 128);
    }
    due("of a new object, without a latest picture", new GreyReel().digest(), wrapped(empty));
    due("of a canvas without pictures", Paint.tiled().digest(), wrapped(numbersOf(Paint::tiled)));
    due("of three pictures", Paint.busy().digest(), wrapped(numbersOf(Paint::busy)));
    due("of 24 pictures", Paint.full().digest(), wrapped(numbersOf(Paint::full)));
    on.sentence("Promise 41", "Returns d.");
    // Each thing that counts is another number: a point, a setting of the step, a packet got.
    GreyReel x = Paint.busy();
    x.setStep(x.step() == 60 ? 59 : x.step() + 1);
    on.holds("another step", x.digest() != first);
    GreyReel y = Paint.busy();
    y.hand(2, 0);
    on.holds("another packet got", y.digest() != first);
    GreyReel z = Paint.busy();
    z.setTarget(1);
    due("another target, which does not count", z.digest(), first);
  }

  private static long wrapped(List<Integer> numbers) {
    BigInteger d = BigInteger.valueOf(58019);
    for (int number : numbers) {
      d = d.multiply(BigInteger.valueOf(31)).add(BigInteger.valueOf(number));
    }
    return d.longValue();
  }

  /** Objects alike, one after another, none of them asked more than 400 times. */
  private static final class Fresh {
    private final Edges.Maker maker;
    private GreyReel x;
    private int asked = 0;

    Fresh(Edges.Maker maker) {
      this.maker = maker;
      x = maker.make();
    }

    GreyReel next() {
      asked++;
      if (asked % 400 == 0) {
        x = maker.make();
      }
      return x;
    }
  }

  private static List<Integer> numbersOf(Edges.Maker maker) {
    Fresh of = new Fresh(maker);
    List<Integer> n = new ArrayList<>();
    int pictures = of.next().pictures();
    n.addAll(List.of(pictures, of.next().step(), of.next().shown(), of.next().drift(),
        of.next().bytesOfAll()));
    for (int p = 0; p < pictures; p++) {
      n.addAll(List.of(of.next().isKey(p) ? 1 : 0, of.next().stepOf(p), of.next().errorOf(p)));
      for (int b = 0; b < 12; b++) {
        n.addAll(List.of(of.next().kindOf(p, b), of.next().vectorX(p, b), of.next().vectorY(p, b),
            of.next().levels(p, b)));
      }
      for (int band = 0; band < 3; band++) {
        int bytes = of.next().bytes(p, band);
        n.addAll(List.of(bytes, of.next().bits(p, band), of.next().hasGot(p, band) ? 1 : 0));
        for (int place = 0; place < bytes; place++) {
          n.add(of.next().byteAt(p, band, place));
        }
      }
    }
    for (int at = 0; at < 3 * 768; at++) {
      int x = at % 32;
      int y = at / 32 % 24;
      if (at < 768) {
        n.add(of.next().canvasAt(x, y));
      } else if (at >= 2 * 768) {
        n.add(of.next().shownAt(x, y));
      } else if (pictures > 0) {
        n.add(of.next().resultAt(pictures - 1, x, y));
      }
    }
    return n;
  }

  private void runAll() {
    newObject();
    fill();
    box();
    ramp();
    noise();
    shift();
    canvasAt();
    settings();
    askKey();
    code();
    ofAPicture();
    ofABlock();
    levels();
    ofABand();
    kinds();
    hand();
    show();
    shownAt();
    drift();
    bytesWith();
    priceOf();
    driftNext();
    sums();
    digest();
    List<String> places = new ArrayList<>();
    for (int promise = 1; promise <= 41; promise++) {
      places.add("Promise " + promise);
    }
    on.end(places, Set.of());
  }

  public static void main(String[] args) {
    new CallEdgesTest().runAll();
  }
}
