/** Canvases and objects that the tests of the edges begin with. */
final class Paint {
  /** Greys that are alike nowhere within reach of a vector. */
  static final int[] PROFILE = {
    40, 52, 47, 90, 133, 120, 171, 60, 75, 200, 188, 140, 151, 99, 20, 34,
    66, 110, 190, 175, 160, 220, 130, 45, 58, 91, 70, 145, 233, 180, 105, 87
  };

  /** A wave: greys next to one another are near, and no slope goes on for a block. */
  static final int[] WAVE = {
    128, 153, 175, 193, 204, 208, 204, 193, 175, 153, 128, 103, 81, 63, 52, 48,
    52, 63, 81, 103, 128, 153, 175, 193, 204, 208, 204, 193, 175, 153, 128, 103
  };

  private Paint() {
  }

  /**
   * With the step 1, and not smoothed, a canvas of columns alone (or of lines alone) is its own
   * RESULT: all its sums are multiples of 4 then.
   */
  static GreyReel exact() {
    GreyReel x = new GreyReel();
    x.setStep(1);
    x.setSmoothing(false);
    return x;
  }

  /** Each column a grey; the last one goes on to the right. */
  static GreyReel columns(GreyReel x, int... greys) {
    for (int at = 0; at < greys.length; at++) {
      x.box(at, 0, 32, 24, greys[at]);
    }
    return x;
  }

  /** Each line a grey; the last one goes on downwards. */
  static GreyReel lines(GreyReel x, int... greys) {
    for (int at = 0; at < greys.length && at < 24; at++) {
      x.box(0, at, 32, 24, greys[at]);
    }
    return x;
  }

  /**
   * Each line of each column of blocks a grey: like lines, but no block is like the one on its left.
   * It is moved down by so many halves, each point beyond the rim the nearest one on it.
   */
  static GreyReel strips(GreyReel x, int[] greys, int halves) {
    for (int strip = 0; strip < 4; strip++) {
      int[] lines = moved(strip(greys, strip), 24, halves);
      for (int at = 0; at < 24; at++) {
        x.box(8 * strip, at, 8, 1, lines[at]);
      }
    }
    return x;
  }

  static int[] strip(int[] greys, int strip) {
    int[] lines = new int[24];
    for (int at = 0; at < 24; at++) {
      lines[at] = greys[(at + 5 * strip) % 20];
    }
    return lines;
  }

  static int[] alternating(int even, int odd) {
    int[] greys = new int[32];
    for (int at = 0; at < 32; at++) {
      greys[at] = at % 2 == 0 ? even : odd;
    }
    return greys;
  }

  /** What so many greys in a row are foretold as by a vector of so many halves. */
  static int[] moved(int[] greys, int length, int halves) {
    int[] made = new int[length];
    for (int at = 0; at < length; at++) {
      int first = Math.floorDiv(2 * at + halves, 2);
      int second = Math.floorMod(halves, 2) == 1 ? first + 1 : first;
      made[at] = (2 * near(greys, length, first) + 2 * near(greys, length, second) + 2) / 4;
    }
    return made;
  }

  private static int near(int[] greys, int length, int at) {
    return greys[Math.max(0, Math.min(at, length - 1))];
  }

  /**
   * Tiles of a quarter each, far from their neighbours: with the step 4 a level is just what is left
   * of a quarter, so the RESULT is the canvas, and coded once more all its blocks are SKIP.
   */
  static GreyReel tiled() {
    GreyReel x = new GreyReel();
    for (int at = 0; at < 48; at++) {
      x.box(at % 8 * 4, at / 8 * 4, 4, 4, tile(at % 8, at / 8));
    }
    x.setSmoothing(false);
    x.setStep(4);
    return x;
  }

  static int tile(int column, int line) {
    return (column * 101 + line * 67) % 256;
  }

  static GreyReel coded(GreyReel x) {
    x.code();
    return x;
  }

  /** All 24 pictures, 0 and 12 KEYs, nothing handed over. */
  static GreyReel full() {
    GreyReel x = tiled();
    for (int i = 0; i < 24; i++) {
      x.code();
    }
    return x;
  }

  /** Three pictures, one of them shown, some packets handed over, all settings changed. */
  static GreyReel busy() {
    GreyReel x = new GreyReel();
    x.ramp(60, 20, 10);
    x.box(10, 6, 9, 9, 220);
    x.box(20, 14, 6, 5, 30);
    x.setStep(9);
    x.setTarget(90);
    x.setInterval(5);
    x.setSmoothing(false);
    x.code();
    x.shift(2, -1);
    x.code();
    x.shift(1, 1);
    x.code();
    x.hand(0, 1);
    x.hand(1, 0);
    x.show();
    x.hand(2, 2);
    x.noise(4711, 7);
    return x;
  }
}
