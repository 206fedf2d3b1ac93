import java.util.Random;

/** Long runs of calls, right and wrong ones, on the class and on the plain model of the document. */
public final class ModelTest {
  interface Call {
    Object answer();
  }

  private static int wrong = 0;
  private static int calls = 0;
  private static int largest = 0;

  private final Random random;
  private final GreyReel x = new GreyReel();
  private final PlainReel m = new PlainReel();
  private final int run;
  private int callsOfThis = 0;

  private ModelTest(int run) {
    this.run = run;
    this.random = new Random(run * 7919L + 17);
  }

  private static Object result(Call call) {
    try {
      return call.answer();
    } catch (PlainReel.Refused e) {
      return "throws." + e.name;
    } catch (RuntimeException e) {
      return "throws." + e.getClass().getSimpleName();
    }
  }

  private void same(String what, Call mine, Call due) {
    calls++;
    callsOfThis++;
    Object got = result(mine);
    Object want = result(due);
    if (!got.equals(want)) {
      wrong++;
      if (wrong < 20) {
        System.out.println("run " + run + ": " + what + " answered " + got + ", due is " + want);
      }
    }
  }

  /** Mostly least to most, now and then one beyond them. */
  private int number(int least, int most) {
    int dice = random.nextInt(60);
    if (dice == 0) {
      return least - 1;
    }
    if (dice == 1) {
      return most + 1;
    }
    if (dice == 2) {
      return random.nextInt();
    }
    return dice == 3 ? least : dice == 4 ? most : least + random.nextInt(most - least + 1);
  }

  private int picture() {
    return number(0, Math.max(0, m.shots.size() - 1));
  }

  private void paint() {
    int a = number(-32, 32);
    int b = number(-32, 32);
    switch (random.nextInt(8)) {
      case 0: {
        int grey = number(0, 255);
        same("fill " + grey, () -> x.fill(grey), () -> m.fill(grey));
        break;
      }
      case 1:
      case 2: {
        int c = number(1, 32);
        int d = number(1, 32);
        int grey = number(0, 255);
        same("box", () -> x.box(a, b, c, d, grey), () -> m.box(a, b, c, d, grey));
        break;
      }
      case 3: {
        int base = number(-255, 255) / (1 + random.nextInt(8));
        int across = number(-80, 80);
        int down = number(-80, 80);
        same("ramp", () -> x.ramp(base, across, down), () -> m.ramp(base, across, down));
        break;
      }
      case 4: {
        int seed = number(0, 65535);
        int strength = random.nextInt(3) == 0 ? number(0, 60) : number(0, 6);
        same("noise", () -> x.noise(seed, strength), () -> m.noise(seed, strength));
        break;
      }
      case 5: {
        int dx = number(-16, 16);
        int dy = number(-16, 16);
        same("shift", () -> x.shift(dx, dy), () -> m.shift(dx, dy));
        break;
      }
      default: {
        int dx = number(-3, 3);
        int dy = number(-3, 3);
        same("shift", () -> x.shift(dx, dy), () -> m.shift(dx, dy));
        break;
      }
    }
  }

  private void set() {
    switch (random.nextInt(8)) {
      case 0: {
        int q = number(1, 60);
        same("setStep", () -> x.setStep(q), () -> m.setStep(q));
        break;
      }
      case 1: {
        int q = number(1, 12);
        same("setStep", () -> x.setStep(q), () -> m.setStep(q));
        break;
      }
      case 2:
      case 3: {
        int target = number(0, 400) / (1 + random.nextInt(6));
        same("setTarget", () -> x.setTarget(target), () -> m.setTarget(target));
        break;
      }
      case 4: {
        int interval = number(1, 24);
        same("setInterval", () -> x.setInterval(interval), () -> m.setInterval(interval));
        break;
      }
      case 5:
      case 6: {
        boolean on = random.nextBoolean();
        same("setSmoothing", () -> x.setSmoothing(on), () -> m.setSmoothing(on));
        break;
      }
      default:
        if (random.nextInt(3) == 0) {
          same("askKey", x::askKey, m::askKey);
        }
        break;
    }
  }

  private void view() {
    int p = random.nextInt(3) == 0 ? picture() : Math.min(m.shown, m.shots.size());
    int band = number(0, 2);
    switch (random.nextInt(6)) {
      case 0:
      case 1:
        same("hand", () -> x.hand(p, band), () -> m.hand(p, band));
        break;
      case 2:
      case 3:
        same("handAll", () -> x.handAll(p), () -> m.handAll(p));
        break;
      case 4:
        same("driftNext", x::driftNext, m::driftNext);
        break;
      default:
        same("driftNext", x::driftNext, m::driftNext);
        same("show", x::show, m::show);
        same("drift", x::drift, m::drift);
        break;
    }
  }

  private void would() {
    int q = number(1, 60);
    int block = number(0, 11);
    if (random.nextBoolean()) {
      same("bytesWith " + q, () -> x.bytesWith(q), () -> m.bytesWith(q));
    } else {
      same("priceOf " + block, () -> x.priceOf(block), () -> m.priceOf(block));
    }
  }

  private void ask() {
    int p = picture();
    int b = number(0, 11);
    int band = number(0, 2);
    int a = number(0, 31);
    int y = number(0, 23);
    int quarter = number(0, 3);
    int place = number(0, 15);
    int kind = number(0, 4);
    int byteOf = number(0, 60);
    same("canvasAt", () -> x.canvasAt(a, y), () -> m.canvasAt(a, y));
    same("isKey", () -> x.isKey(p), () -> m.shot(p).isKey);
    same("stepOf", () -> x.stepOf(p), () -> m.shot(p).q);
    same("kindOf", () -> x.kindOf(p, b), () -> m.block(p, b).kind);
    same("vectorX", () -> x.vectorX(p, b), () -> m.block(p, b).vx);
    same("vectorY", () -> x.vectorY(p, b), () -> m.block(p, b).vy);
    same("levels", () -> x.levels(p, b), () -> m.block(p, b).count());
    same("levelAt", () -> x.levelAt(p, b, quarter, place), () -> m.levelAt(p, b, quarter, place));
    same("resultAt", () -> x.resultAt(p, a, y), () -> m.resultAt(p, a, y));
    same("errorOf", () -> x.errorOf(p), () -> m.shot(p).error());
    same("bytes", () -> x.bytes(p, band), () -> m.bytes(p, band));
    same("bits", () -> x.bits(p, band), () -> m.bits(p, band));
    same("byteAt", () -> x.byteAt(p, band, byteOf), () -> m.byteAt(p, band, byteOf));
    same("kinds", () -> x.kinds(p, kind), () -> m.kinds(p, kind));
    same("hasGot", () -> x.hasGot(p, band), () -> m.hasGot(p, band));
    same("shownAt", () -> x.shownAt(a, y), () -> m.shownAt(a, y));
  }

  private void askAll() {
    same("pictures", x::pictures, () -> m.shots.size());
    same("step", x::step, () -> m.q);
    same("shown", x::shown, () -> m.shown);
    same("drift", x::drift, m::drift);
    same("driftNext", x::driftNext, m::driftNext);
    same("bytesOfAll", x::bytesOfAll, m::bytesOfAll);
    same("meanError", x::meanError, m::meanError);
    same("digest", x::digest, m::digest);
  }

  /** A turn has at most 16 calls: so all of them, and those of the end, stay below 512. */
  private void play(int length) {
    for (int i = 0; i < length && callsOfThis < 480; i++) {
      int dice = random.nextInt(20);
      if (dice < 5) {
        paint();
      } else if (dice < 7) {
        set();
      } else if (dice < 11) {
        same("code", x::code, m::code);
        same("digest", x::digest, m::digest);
      } else if (dice < 16) {
        view();
      } else if (dice < 18) {
        would();
      } else {
        ask();
      }
    }
    askAll();
  }

  /** Noise upon noise, up to black and white: levels of all sizes in all places, long packets. */
  private void playDearest() {
    for (int picture = 0; picture < 3; picture++) {
      for (int i = 0; i < 24 + 8 * picture; i++) {
        int seed = random.nextInt(65536);
        same("noise " + seed, () -> x.noise(seed, 60), () -> m.noise(seed, 60));
      }
      for (int i = random.nextInt(60); i > 0; i--) {
        int column = random.nextInt(32);
        int line = random.nextInt(24);
        int grey = random.nextInt(2) * 255;
        same("box", () -> x.box(column, line, 1, 1, grey), () -> m.box(column, line, 1, 1, grey));
      }
      int q = 1 + random.nextInt(2);
      same("setStep", () -> x.setStep(q), () -> m.setStep(q));
      same("code", x::code, m::code);
      same("handAll", () -> x.handAll(0), () -> m.handAll(0));
    }
    same("show", x::show, m::show);
    askAll();
    largest = Math.max(largest, x.bytesOfAll());
  }

  public static void main(String[] args) {
    int runs = args.length > 0 ? Integer.parseInt(args[0]) : 250;
    for (int run = 1; run <= runs; run++) {
      new ModelTest(run).play(30 + 170 * (run % 2));
    }
    for (int run = 1; run <= 20; run++) {
      new ModelTest(-run).playDearest();
    }
    if (largest < 3 * 880) {
      wrong++;
      System.out.println("no three pictures had more bytes than " + largest);
    }
    System.out.println("ModelTest: " + calls + " calls, " + wrong + " answers not as due");
    if (wrong != 0) {
      System.exit(1);
    }
  }
}
