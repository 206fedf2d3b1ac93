import java.util.Arrays;

/** A coder for small moving pictures, and a viewer for what it codes. */
public final class GreyReel {
  private static final int WIDE = 32;
  private static final int HIGH = 24;
  private static final int POINTS = WIDE * HIGH;
  private static final int BANDS = 3;
  private static final int BLOCKS_IN_BAND = 4;
  private static final int BLOCKS = BANDS * BLOCKS_IN_BAND;
  private static final int SIDE = 8;
  private static final int AREA = SIDE * SIDE;
  private static final int QUARTERS = 4;
  private static final int QUARTER_SIDE = 4;
  private static final int PLACES = QUARTER_SIDE * QUARTER_SIDE;
  private static final int WHITE = 255;
  private static final int MID_GREY = 128;
  private static final int TOP_STEP = 60;
  private static final int FARTHEST = 6;
  private static final int MOST_PICTURES = 24;
  private static final int MOST_FRESH_BLOCKS = 8;

  private static final int SKIP = 0;
  private static final int MOVED = 1;
  private static final int FLAT = 2;
  private static final int LEFT = 3;
  private static final int TREND = 4;
  private static final int KINDS = 5;

  private final int[] canvas = new int[POINTS];
  private final Picture[] reel = new Picture[MOST_PICTURES];
  private final Coder coder = new Coder();
  private final PacketWriter writer = new PacketWriter();
  private final Viewer viewer = new Viewer();
  private final int[] canvasBefore = new int[POINTS];
  // Every trial is coded into the draft, so that asking what would be makes nothing new.
  private Picture draft = new Picture();
  private int coded = 0;
  private int deltasBehindKey = 0;
  private int nextStep = 8;
  private int bytesWanted = 0;
  private int keyInterval = 12;
  private boolean isSmoothing = true;
  private boolean isKeyAsked = false;

  public GreyReel() {
  }

  // ---- the canvas

  public int fill(int grey) throws IllegalArgumentException {
    if (!isWithin(grey, 0, WHITE)) {
      throw new IllegalArgumentException("grey is not 0 to 255");
    }
    int others = 0;
    for (int at = 0; at < POINTS; at++) {
      others += canvas[at] == grey ? 0 : 1;
      canvas[at] = grey;
    }
    return others;
  }

  public int box(int x, int y, int wide, int high, int grey) throws IllegalArgumentException {
    if (!isWithin(x, -32, 32) || !isWithin(y, -32, 32)) {
      throw new IllegalArgumentException("x or y is not -32 to 32");
    }
    if (!isWithin(wide, 1, 32) || !isWithin(high, 1, 32)) {
      throw new IllegalArgumentException("wide or high is not 1 to 32");
    }
    if (!isWithin(grey, 0, WHITE)) {
      throw new IllegalArgumentException("grey is not 0 to 255");
    }
    int painted = 0;
    for (int line = Math.max(y, 0); line < Math.min(y + high, HIGH); line++) {
      for (int column = Math.max(x, 0); column < Math.min(x + wide, WIDE); column++) {
        canvas[line * WIDE + column] = grey;
        painted++;
      }
    }
    return painted;
  }

  public int ramp(int base, int across, int down) throws IllegalArgumentException {
    if (!isWithin(base, -255, 255)) {
      throw new IllegalArgumentException("base is not -255 to 255");
    }
    if (!isWithin(across, -80, 80) || !isWithin(down, -80, 80)) {
      throw new IllegalArgumentException("across or down is not -80 to 80");
    }
    int sum = 0;
    for (int at = 0; at < POINTS; at++) {
      int slope = across * (at % WIDE) + down * (at / WIDE);
      canvas[at] = clip(canvas[at] + base + (slope >> 3));
      sum += canvas[at];
    }
    return sum;
  }

  public int noise(int seed, int strength) throws IllegalArgumentException {
    if (!isWithin(seed, 0, 65535)) {
      throw new IllegalArgumentException("seed is not 0 to 65535");
    }
    if (!isWithin(strength, 0, 60)) {
      throw new IllegalArgumentException("strength is not 0 to 60");
    }
    int r = seed;
    for (int at = 0; at < POINTS; at++) {
      r = (r * 1103 + 12345) % 65536;
      canvas[at] = clip(canvas[at] + (r >> 4) % (2 * strength + 1) - strength);
    }
    return r;
  }

  public int shift(int dx, int dy) throws IllegalArgumentException {
    if (!isWithin(dx, -16, 16) || !isWithin(dy, -16, 16)) {
      throw new IllegalArgumentException("dx or dy is not -16 to 16");
    }
    System.arraycopy(canvas, 0, canvasBefore, 0, POINTS);
    int others = 0;
    for (int at = 0; at < POINTS; at++) {
      int column = onRow(at % WIDE - dx, WIDE);
      int line = onRow(at / WIDE - dy, HIGH);
      canvas[at] = canvasBefore[line * WIDE + column];
      others += canvas[at] == canvasBefore[at] ? 0 : 1;
    }
    return others;
  }

  public int canvasAt(int x, int y) throws IndexOutOfBoundsException {
    return canvas[pointAt(x, y)];
  }

  // ---- coding

  public int setStep(int q) throws IllegalArgumentException {
    if (!isWithin(q, 1, TOP_STEP)) {
      throw new IllegalArgumentException("q is not 1 to 60");
    }
    int before = nextStep;
    nextStep = q;
    return before;
  }

  public int setTarget(int target) throws IllegalArgumentException {
    if (!isWithin(target, 0, 400)) {
      throw new IllegalArgumentException("target is not 0 to 400");
    }
    int before = bytesWanted;
    bytesWanted = target;
    return before;
  }

  public int setInterval(int interval) throws IllegalArgumentException {
    if (!isWithin(interval, 1, 24)) {
      throw new IllegalArgumentException("interval is not 1 to 24");
    }
    int before = keyInterval;
    keyInterval = interval;
    return before;
  }

  public boolean setSmoothing(boolean isOn) {
    boolean before = isSmoothing;
    isSmoothing = isOn;
    return before;
  }

  public boolean askKey() {
    boolean wasDue = isKeyDue();
    isKeyAsked = true;
    return wasDue;
  }

  public int code() throws IllegalStateException {
    refuseIfFull();
    draftNext(nextStep);
    writer.write(draft);
    Picture kept = draft;
    kept.row = writer.copyOfBytes(kept.bytesInAll());
    reel[coded] = kept;
    draft = new Picture();
    coded++;
    deltasBehindKey = kept.isKeyPicture ? 0 : deltasBehindKey + 1;
    isKeyAsked = false;
    steer(kept);
    return kept.bytesInAll();
  }

  // ---- pictures, asked

  public int pictures() {
    return coded;
  }

  public int step() {
    return nextStep;
  }

  public boolean isKey(int picture) throws IndexOutOfBoundsException {
    return pictureAt(picture).isKeyPicture;
  }

  public int stepOf(int picture) throws IndexOutOfBoundsException {
    return pictureAt(picture).q;
  }

  public int kindOf(int picture, int block) throws IndexOutOfBoundsException {
    return pictureAt(picture).kind[placeIn(block, BLOCKS)];
  }

  public int vectorX(int picture, int block) throws IndexOutOfBoundsException {
    return pictureAt(picture).vx[placeIn(block, BLOCKS)];
  }

  public int vectorY(int picture, int block) throws IndexOutOfBoundsException {
    return pictureAt(picture).vy[placeIn(block, BLOCKS)];
  }

  public int levels(int picture, int block) throws IndexOutOfBoundsException {
    return pictureAt(picture).levelsNotZero(placeIn(block, BLOCKS));
  }

  public int levelAt(int picture, int block, int quarter, int place)
      throws IndexOutOfBoundsException {
    Picture asked = pictureAt(picture);
    int row = placeIn(block, BLOCKS) * QUARTERS + placeIn(quarter, QUARTERS);
    return asked.level[row * PLACES + placeIn(place, PLACES)];
  }

  public int resultAt(int picture, int x, int y) throws IndexOutOfBoundsException {
    return pictureAt(picture).result[pointAt(x, y)];
  }

  public int errorOf(int picture) throws IndexOutOfBoundsException {
    return pictureAt(picture).error;
  }

  public int bytes(int picture, int band) throws IndexOutOfBoundsException {
    return pictureAt(picture).bytesIn(placeIn(band, BANDS));
  }

  public int bits(int picture, int band) throws IndexOutOfBoundsException {
    return pictureAt(picture).usedBits[placeIn(band, BANDS)];
  }

  public int byteAt(int picture, int band, int place) throws IndexOutOfBoundsException {
    Picture asked = pictureAt(picture);
    int packet = placeIn(band, BANDS);
    int at = asked.firstByteOf(packet) + placeIn(place, asked.bytesIn(packet));
    return asked.row[placeIn(at, asked.row.length)];
  }

  public int kinds(int picture, int kind) throws IndexOutOfBoundsException {
    return pictureAt(picture).blocksOf(placeIn(kind, KINDS));
  }

  // ---- the viewer

  public boolean hand(int picture, int band) throws IndexOutOfBoundsException {
    Picture handed = pictureAt(picture);
    return handOver(handed, placeIn(band, BANDS));
  }

  public int handAll(int picture) throws IndexOutOfBoundsException {
    Picture handed = pictureAt(picture);
    int got = 0;
    for (int band = 0; band < BANDS; band++) {
      got += handOver(handed, band) ? 1 : 0;
    }
    return got;
  }

  public int show() throws IllegalStateException {
    Picture next = pictureOrNull(viewer.shownPictures);
    if (next == null) {
      throw new IllegalStateException("that picture was not coded yet");
    }
    viewer.make(next);
    viewer.takeMade();
    return BANDS - next.bandsGot();
  }

  public int shown() {
    return viewer.shownPictures;
  }

  public int shownAt(int x, int y) throws IndexOutOfBoundsException {
    return viewer.screen[pointAt(x, y)];
  }

  public int drift() {
    Picture latest = pictureOrNull(viewer.shownPictures - 1);
    return latest == null ? 0 : distance(viewer.screen, latest.result);
  }

  public boolean hasGot(int picture, int band) throws IndexOutOfBoundsException {
    return pictureAt(picture).got[placeIn(band, BANDS)];
  }

  // ---- what would be (nothing is changed)

  public int bytesWith(int q) throws IllegalArgumentException, IllegalStateException {
    if (!isWithin(q, 1, TOP_STEP)) {
      throw new IllegalArgumentException("q is not 1 to 60");
    }
    refuseIfFull();
    draftNext(q);
    writer.write(draft);
    return draft.bytesInAll();
  }

  public int priceOf(int block) throws IndexOutOfBoundsException, IllegalStateException {
    int asked = placeIn(block, BLOCKS);
    refuseIfFull();
    draftNext(nextStep);
    return draft.price[asked];
  }

  public int driftNext() {
    Picture next = pictureOrNull(viewer.shownPictures);
    if (next == null) {
      return -1;
    }
    viewer.make(next);
    return distance(viewer.studio.made, next.result);
  }

  public int bytesOfAll() {
    int sum = 0;
    for (int picture = 0; picture < coded; picture++) {
      sum += pictureAt(picture).bytesInAll();
    }
    return sum;
  }

  public double meanError() {
    if (coded < 1) {
      return 0;
    }
    long sum = 0;
    for (int picture = 0; picture < coded; picture++) {
      sum += pictureAt(picture).error;
    }
    return (double) sum / coded;
  }

  public long digest() {
    long d = 58019;
    d = d * 31 + coded;
    d = d * 31 + nextStep;
    d = d * 31 + viewer.shownPictures;
    d = d * 31 + drift();
    d = d * 31 + bytesOfAll();
    for (int picture = 0; picture < coded; picture++) {
      d = pictureAt(picture).digestOn(d);
    }
    d = digestPoints(d, canvas);
    Picture latest = pictureOrNull(coded - 1);
    if (latest != null) {
      d = digestPoints(d, latest.result);
    }
    return digestPoints(d, viewer.screen);
  }

  // ---- helpers of the face

  private static boolean isWithin(int number, int least, int most) {
    return number >= least && number <= most;
  }

  private static int clip(int number) {
    return number < 0 ? 0 : number > WHITE ? WHITE : number;
  }

  /** The nearest place on a row to one that may be beyond its ends. */
  private static int onRow(int place, int length) {
    return Math.max(0, Math.min(place, length - 1));
  }

  private static int placeIn(int place, int length) {
    if (place < 0 || place >= length) {
      throw new IndexOutOfBoundsException("there is no such place");
    }
    return place;
  }

  private static int pointAt(int x, int y) {
    return placeIn(y, HIGH) * WIDE + placeIn(x, WIDE);
  }

  private static int firstPointOf(int block) {
    return block / BLOCKS_IN_BAND * SIDE * WIDE + block % BLOCKS_IN_BAND * SIDE;
  }

  private static boolean isFirstOfBand(int block) {
    return block % BLOCKS_IN_BAND == 0;
  }

  /** A signed number as one that is not negative, small ones staying small. */
  private static int folded(int number) {
    return number > 0 ? 2 * number - 1 : -2 * number;
  }

  private static int distance(int[] some, int[] others) {
    int sum = 0;
    for (int at = 0; at < POINTS; at++) {
      sum += Math.abs(some[at] - others[at]);
    }
    return sum;
  }

  private static long digestPoints(long start, int[] points) {
    long d = start;
    for (int at = 0; at < POINTS; at++) {
      d = d * 31 + points[at];
    }
    return d;
  }

  private Picture pictureOrNull(int picture) {
    return picture < 0 || picture >= coded || picture >= MOST_PICTURES ? null : reel[picture];
  }

  private Picture pictureAt(int picture) {
    Picture found = pictureOrNull(picture);
    if (found == null) {
      throw new IndexOutOfBoundsException("there is no such picture");
    }
    return found;
  }

  private void refuseIfFull() {
    if (coded >= MOST_PICTURES) {
      throw new IllegalStateException("there are 24 pictures");
    }
  }

  private boolean isKeyDue() {
    return coded == 0 || isKeyAsked || deltasBehindKey >= keyInterval - 1;
  }

  private void draftNext(int q) {
    Picture latest = pictureOrNull(coded - 1);
    if (latest != null) {
      coder.studio.lookAhead(latest.result);
    }
    draft.number = coded;
    draft.q = q;
    draft.isSmoothed = isSmoothing;
    draft.isKeyPicture = latest == null || isKeyDue();
    coder.codeAll(draft, canvas);
    if (!draft.isKeyPicture && draft.freshBlocks() > MOST_FRESH_BLOCKS) {
      draft.isKeyPicture = true;
      coder.codeAll(draft, canvas);
    }
  }

  private void steer(Picture latest) {
    if (bytesWanted == 0) {
      return;
    }
    int got = latest.bytesInAll();
    int wanted = latest.isKeyPicture ? 3 * bytesWanted : bytesWanted;
    if (got * 4 > wanted * 5) {
      nextStep = Math.min(TOP_STEP, nextStep + 1 + nextStep / 4);
    } else if (got * 4 < wanted * 3) {
      nextStep = Math.max(1, nextStep - 1);
    }
  }

  private boolean handOver(Picture picture, int band) {
    boolean isGot = picture.number >= viewer.shownPictures && !picture.got[band];
    if (isGot) {
      picture.got[band] = true;
    }
    return isGot;
  }

  /** A coded picture: how its blocks were coded, its packets, its RESULT, what the viewer got. */
  private static final class Picture {
    final int[] kind = new int[BLOCKS];
    final int[] vx = new int[BLOCKS];
    final int[] vy = new int[BLOCKS];
    final int[] price = new int[BLOCKS];
    final int[] level = new int[BLOCKS * AREA];
    final int[] result = new int[POINTS];
    final int[] usedBits = new int[BANDS];
    final boolean[] got = new boolean[BANDS];
    int[] row = new int[0];
    int number = 0;
    int q = 1;
    int error = 0;
    boolean isKeyPicture = true;
    boolean isSmoothed = true;

    int bytesIn(int band) {
      return (usedBits[band] + 7) / 8;
    }

    int firstByteOf(int band) {
      int sum = 0;
      for (int ahead = 0; ahead < band; ahead++) {
        sum += bytesIn(ahead);
      }
      return sum;
    }

    int bytesInAll() {
      return firstByteOf(BANDS);
    }

    int levelsNotZero(int block) {
      int sum = 0;
      for (int place = 0; place < AREA; place++) {
        sum += level[block * AREA + place] == 0 ? 0 : 1;
      }
      return sum;
    }

    int blocksOf(int wanted) {
      int sum = 0;
      for (int block = 0; block < BLOCKS; block++) {
        sum += kind[block] == wanted ? 1 : 0;
      }
      return sum;
    }

    int freshBlocks() {
      return BLOCKS - blocksOf(SKIP) - blocksOf(MOVED);
    }

    int bandsGot() {
      int sum = 0;
      for (int band = 0; band < BANDS; band++) {
        sum += got[band] ? 1 : 0;
      }
      return sum;
    }

    // Blocks without a vector hold 0, 0, so the left neighbour's is always the EXPECTED one.
    int expectedX(int block) {
      return isFirstOfBand(block) ? 0 : vx[block - 1];
    }

    int expectedY(int block) {
      return isFirstOfBand(block) ? 0 : vy[block - 1];
    }

    long digestOn(long start) {
      long d = start * 31 + (isKeyPicture ? 1 : 0);
      d = d * 31 + q;
      d = d * 31 + error;
      for (int block = 0; block < BLOCKS; block++) {
        d = d * 31 + kind[block];
        d = d * 31 + vx[block];
        d = d * 31 + vy[block];
        d = d * 31 + levelsNotZero(block);
      }
      for (int band = 0; band < BANDS; band++) {
        d = digestPacket(d, band);
      }
      return d;
    }

    private long digestPacket(long start, int band) {
      long d = start * 31 + bytesIn(band);
      d = d * 31 + usedBits[band];
      d = d * 31 + (got[band] ? 1 : 0);
      int first = firstByteOf(band);
      for (int at = first; at < first + bytesIn(band) && at < row.length; at++) {
        d = d * 31 + row[at];
      }
      return d;
    }
  }

  /** Makes pictures block by block, for the coder and for the viewer alike. */
  private static final class Studio {
    private static final int RIM = 3;
    private static final int AHEAD_WIDE = WIDE + 2 * RIM;
    private static final int AHEAD_HIGH = HIGH + 2 * RIM;
    private static final int[] ORDER = {0, 1, 4, 8, 5, 2, 3, 6, 9, 12, 13, 10, 7, 11, 14, 15};

    // The picture ahead, its rim drawn out as far as a vector reaches.
    private final int[] ahead = new int[AHEAD_WIDE * AHEAD_HIGH];
    private final int[] quarterNumbers = new int[PLACES];
    final int[] made = new int[POINTS];
    final int[] foretold = new int[AREA];

    void lookAhead(int[] picture) {
      for (int y = 0; y < AHEAD_HIGH; y++) {
        int line = onRow(y - RIM, HIGH) * WIDE;
        for (int x = 0; x < AHEAD_WIDE; x++) {
          ahead[y * AHEAD_WIDE + x] = picture[line + onRow(x - RIM, WIDE)];
        }
      }
    }

    void foretell(int kind, int block, int vx, int vy) {
      switch (kind) {
        case SKIP:
        case MOVED:
          foretellMoved(block, vx, vy);
          break;
        case FLAT:
          foretellFlat(block);
          break;
        case LEFT:
          foretellLeft(block);
          break;
        default:
          foretellTrend(block);
          break;
      }
    }

    private void foretellMoved(int block, int vx, int vy) {
      int start = startAhead(block, vx, vy);
      int right = vx & 1;
      int below = (vy & 1) * AHEAD_WIDE;
      for (int at = 0; at < AREA; at++) {
        int point = start + at / SIDE * AHEAD_WIDE + at % SIDE;
        foretold[at] = between(point, right, below);
      }
    }

    /** DIFFERENCE of a MOVED block, or a part of it that is not below the limit already. */
    int differenceMoved(int[] canvas, int block, int vx, int vy, int limit) {
      int start = startAhead(block, vx, vy);
      int right = vx & 1;
      int below = (vy & 1) * AHEAD_WIDE;
      int first = firstPointOf(block);
      int sum = 0;
      for (int line = 0; line < SIDE && sum < limit; line++) {
        for (int column = 0; column < SIDE; column++) {
          int grey = between(start + line * AHEAD_WIDE + column, right, below);
          sum += Math.abs(canvas[first + line * WIDE + column] - grey);
        }
      }
      return sum;
    }

    /** Where the point is that the first one of a block is foretold by, in the picture ahead. */
    private int startAhead(int block, int vx, int vy) {
      int halvesRight = vx < -FARTHEST || vx > FARTHEST ? 0 : vx;
      int halvesDown = vy < -FARTHEST || vy > FARTHEST ? 0 : vy;
      int x = block % BLOCKS_IN_BAND * SIDE + RIM + (halvesRight >> 1);
      int y = block / BLOCKS_IN_BAND * SIDE + RIM + (halvesDown >> 1);
      return y * AHEAD_WIDE + x;
    }

    private int between(int at, int right, int below) {
      // Of four times the same point, and 2, a quarter is that point again.
      if (right == 0 && below == 0) {
        return ahead[at];
      }
      int upper = ahead[at] + ahead[at + right];
      int lower = ahead[at + below] + ahead[at + below + right];
      return (upper + lower + 2) >> 2;
    }

    private void foretellFlat(int block) {
      int grey = MID_GREY;
      if (!isFirstOfBand(block)) {
        int last = firstPointOf(block) - 1;
        int sum = 0;
        for (int line = 0; line < SIDE; line++) {
          sum += made[last + line * WIDE];
        }
        grey = (sum + 4) >> 3;
      }
      Arrays.fill(foretold, grey);
    }

    private void foretellLeft(int block) {
      if (isFirstOfBand(block)) {
        return;
      }
      int last = firstPointOf(block) - 1;
      for (int at = 0; at < AREA; at++) {
        foretold[at] = made[last + at / SIDE * WIDE];
      }
    }

    private void foretellTrend(int block) {
      if (isFirstOfBand(block)) {
        return;
      }
      int last = firstPointOf(block) - 1;
      for (int at = 0; at < AREA; at++) {
        int l = made[last + at / SIDE * WIDE];
        int m = made[last + at / SIDE * WIDE - 4];
        foretold[at] = clip(l + (((l - m) * (at % SIDE + 1)) >> 2));
      }
    }

    int difference(int[] canvas, int block) {
      int first = firstPointOf(block);
      int sum = 0;
      for (int at = 0; at < AREA; at++) {
        sum += Math.abs(canvas[first + at / SIDE * WIDE + at % SIDE] - foretold[at]);
      }
      return sum;
    }

    /** Tells whether all levels of the block, put where they belong in the row, are 0. */
    boolean measure(int[] canvas, int block, int q, int[] level) {
      boolean isAllZero = true;
      for (int quarter = 0; quarter < QUARTERS; quarter++) {
        for (int at = 0; at < PLACES; at++) {
          int inBlock = placeInBlock(quarter, at);
          int point = pointOf(block, inBlock);
          quarterNumbers[at] = canvas[point] - foretold[inBlock];
        }
        turnQuarter();
        int row = block * AREA + quarter * PLACES;
        for (int place = 0; place < PLACES; place++) {
          level[row + place] = levelOf(quarterNumbers[ORDER[place]], q);
          isAllZero = isAllZero && level[row + place] == 0;
        }
      }
      return isAllZero;
    }

    private static int levelOf(int sum, int q) {
      int unit = 4 * q;
      if (unit < 1) {
        return 0;
      }
      int size = (Math.abs(sum) + unit / 3) / unit;
      return sum < 0 ? -size : size;
    }

    /** Makes a block out of what is foretold and its levels. */
    void makeBlock(int block, int q, int[] level) {
      for (int quarter = 0; quarter < QUARTERS; quarter++) {
        int row = block * AREA + quarter * PLACES;
        for (int place = 0; place < PLACES; place++) {
          quarterNumbers[ORDER[place]] = level[row + place] * 4 * q;
        }
        turnQuarter();
        for (int at = 0; at < PLACES; at++) {
          int inBlock = placeInBlock(quarter, at);
          made[pointOf(block, inBlock)] = clip(foretold[inBlock] + ((quarterNumbers[at] + 8) >> 4));
        }
      }
    }

    void makeForetold(int block) {
      for (int at = 0; at < AREA; at++) {
        made[pointOf(block, at)] = foretold[at];
      }
    }

    private static int placeInBlock(int quarter, int at) {
      int line = quarter / 2 * QUARTER_SIDE + at / QUARTER_SIDE;
      int column = quarter % 2 * QUARTER_SIDE + at % QUARTER_SIDE;
      return line * SIDE + column;
    }

    private static int pointOf(int block, int inBlock) {
      return firstPointOf(block) + inBlock / SIDE * WIDE + inBlock % SIDE;
    }

    // The signs w(u, i) are the same with u and i changed round, so this turns numbers into sums,
    // and levels back into numbers.
    private void turnQuarter() {
      for (int j = 0; j < QUARTER_SIDE; j++) {
        turnFour(j, QUARTER_SIDE);
      }
      for (int i = 0; i < QUARTER_SIDE; i++) {
        turnFour(i * QUARTER_SIDE, 1);
      }
    }

    private void turnFour(int first, int gap) {
      int a = quarterNumbers[first];
      int b = quarterNumbers[first + gap];
      int c = quarterNumbers[first + 2 * gap];
      int d = quarterNumbers[first + 3 * gap];
      quarterNumbers[first] = a + b + c + d;
      quarterNumbers[first + gap] = a + b - c - d;
      quarterNumbers[first + 2 * gap] = a - b - c + d;
      quarterNumbers[first + 3 * gap] = a - b + c - d;
    }

    void smooth(int q) {
      for (int x = SIDE; x < WIDE; x += SIDE) {
        for (int y = 0; y < HIGH; y++) {
          smoothAcross(y * WIDE + x, 1, q);
        }
      }
      for (int y = SIDE; y < HIGH; y += SIDE) {
        for (int x = 0; x < WIDE; x++) {
          smoothAcross(y * WIDE + x, WIDE, q);
        }
      }
    }

    private void smoothAcross(int at, int gap, int q) {
      int p = made[at - 2 * gap];
      int r = made[at - gap];
      int s = made[at];
      int t = made[at + gap];
      boolean isSeam = Math.abs(s - r) <= 2 * (q + 2);
      if (isSeam && Math.abs(r - p) <= q + 2 && Math.abs(t - s) <= q + 2) {
        int e = (s - r) / 4;
        made[at - gap] = r + e;
        made[at] = s - e;
      }
    }
  }

  /** Chooses how the blocks of a canvas are coded. */
  private static final class Coder {
    // No PRICE comes near it: 64 * 255 for the points, and 26 * 60 for a vector.
    private static final int BEYOND_ANY_PRICE = 1 << 20;

    final Studio studio = new Studio();
    private int bestKind = FLAT;
    private int bestX = 0;
    private int bestY = 0;
    private int bestPrice = 0;

    /** Codes a canvas as the KEY or DELTA that the picture is said to be. */
    void codeAll(Picture picture, int[] canvas) {
      for (int block = 0; block < BLOCKS; block++) {
        codeBlock(picture, canvas, block);
      }
      if (picture.isSmoothed) {
        studio.smooth(picture.q);
      }
      int error = 0;
      for (int at = 0; at < POINTS; at++) {
        int off = canvas[at] - studio.made[at];
        error += off * off;
        picture.result[at] = studio.made[at];
      }
      picture.error = error;
    }

    private void codeBlock(Picture picture, int[] canvas, int block) {
      int q = picture.q;
      bestPrice = BEYOND_ANY_PRICE;
      if (!picture.isKeyPicture) {
        seekVector(picture, canvas, block);
      }
      tryKind(FLAT, canvas, block, q);
      if (!isFirstOfBand(block)) {
        tryKind(LEFT, canvas, block, q);
        tryKind(TREND, canvas, block, 2 * q);
      }
      studio.foretell(bestKind, block, bestX, bestY);
      boolean isAllZero = studio.measure(canvas, block, q, picture.level);
      boolean isAsExpected =
          bestX == picture.expectedX(block) && bestY == picture.expectedY(block);
      picture.kind[block] = bestKind == MOVED && isAsExpected && isAllZero ? SKIP : bestKind;
      picture.vx[block] = bestX;
      picture.vy[block] = bestY;
      picture.price[block] = bestPrice;
      studio.makeBlock(block, q, picture.level);
    }

    private void seekVector(Picture picture, int[] canvas, int block) {
      for (int vy = -FARTHEST; vy <= FARTHEST; vy += 2) {
        for (int vx = -FARTHEST; vx <= FARTHEST; vx += 2) {
          tryVector(picture, canvas, block, vx, vy);
        }
      }
      int middleX = bestX;
      int middleY = bestY;
      for (int vy = middleY - 1; vy <= middleY + 1; vy++) {
        for (int vx = middleX - 1; vx <= middleX + 1; vx++) {
          if (isWithin(vx, -FARTHEST, FARTHEST) && isWithin(vy, -FARTHEST, FARTHEST)) {
            tryVector(picture, canvas, block, vx, vy);
          }
        }
      }
    }

    private void tryVector(Picture picture, int[] canvas, int block, int vx, int vy) {
      int ways = Math.abs(vx - picture.expectedX(block)) + Math.abs(vy - picture.expectedY(block));
      int extra = picture.q * (2 + ways);
      int price = extra + studio.differenceMoved(canvas, block, vx, vy, bestPrice - extra);
      if (price < bestPrice) {
        take(MOVED, vx, vy, price);
      }
    }

    private void tryKind(int kind, int[] canvas, int block, int extra) {
      studio.foretell(kind, block, 0, 0);
      int price = studio.difference(canvas, block) + extra;
      if (price < bestPrice) {
        take(kind, 0, 0, price);
      }
    }

    private void take(int kind, int vx, int vy, int price) {
      bestKind = kind;
      bestX = vx;
      bestY = vy;
      bestPrice = price;
    }
  }

  /** Writes the packets of a picture, one behind another, into a row of bytes. */
  private static final class PacketWriter {
    // No band has more: 13 bits, and of each block 4 for its kind, 18 for its vector, and 24 for
    // each of 68 numbers.
    private static final int MOST_BYTES = BANDS * 829;
    private static final int CONTEXTS = 3;
    private static final int COUNT_CONTEXT = 0;
    private static final int LEVEL_CONTEXT = 1;
    private static final int FIRST_LEVEL_CONTEXT = 2;
    private static final int LONG_FORM = 12;

    private final int[] row = new int[MOST_BYTES];
    private final int[] kindRow = new int[KINDS];
    private final int[] mean = new int[CONTEXTS];
    private int bitsWritten = 0;

    int[] copyOfBytes(int length) {
      return Arrays.copyOf(row, onRow(length, MOST_BYTES + 1));
    }

    void write(Picture picture) {
      Arrays.fill(row, 0);
      bitsWritten = 0;
      for (int band = 0; band < BANDS; band++) {
        int start = bitsWritten;
        startBand(picture);
        for (int block = 0; block < BLOCKS_IN_BAND; block++) {
          writeBlock(picture, band * BLOCKS_IN_BAND + block);
        }
        picture.usedBits[band] = bitsWritten - start;
        bitsWritten = start + picture.bytesIn(band) * 8;
      }
    }

    private void startBand(Picture picture) {
      for (int kind = 0; kind < KINDS; kind++) {
        kindRow[kind] = kind;
      }
      Arrays.fill(mean, 4);
      put(picture.number, 5);
      put(picture.isKeyPicture ? 1 : 0, 1);
      put(picture.q, 6);
      put(picture.isSmoothed ? 1 : 0, 1);
    }

    private void writeBlock(Picture picture, int block) {
      int kind = picture.kind[block];
      writeKind(kind);
      if (kind == MOVED) {
        writeSigned(picture.vx[block] - picture.expectedX(block));
        writeSigned(picture.vy[block] - picture.expectedY(block));
      }
      if (kind != SKIP) {
        for (int quarter = 0; quarter < QUARTERS; quarter++) {
          writeLevels(picture.level, block * AREA + quarter * PLACES);
        }
      }
    }

    private void writeKind(int kind) {
      int place = 0;
      while (place < KINDS - 1 && kindRow[place] != kind) {
        place++;
      }
      for (int behind = place; behind > 0; behind--) {
        kindRow[behind] = kindRow[behind - 1];
      }
      kindRow[0] = kind;
      if (place < KINDS - 1) {
        putOnes(place);
      } else {
        put((1 << place) - 1, place);
      }
    }

    private void writeSigned(int number) {
      int value = folded(number) + 1;
      int length = 1;
      while (length < 16 && value >> length > 0) {
        length++;
      }
      put(value, 2 * length - 1);
    }

    private void writeLevels(int[] level, int first) {
      int count = PLACES;
      while (count > 0 && level[first + count - 1] == 0) {
        count--;
      }
      writeNumber(count, COUNT_CONTEXT);
      for (int place = 0; place < count; place++) {
        int context = place == 0 ? FIRST_LEVEL_CONTEXT : LEVEL_CONTEXT;
        writeNumber(folded(level[first + place]), context);
      }
    }

    private void writeNumber(int number, int context) {
      int k = 0;
      while (k < LONG_FORM && 4 << k < mean[context]) {
        k++;
      }
      if (number >> k >= LONG_FORM) {
        put((1 << LONG_FORM) - 1, LONG_FORM);
        put(number, LONG_FORM);
      } else {
        putOnes(number >> k);
        put(number & ((1 << k) - 1), k);
      }
      mean[context] += number - mean[context] / 4;
    }

    /** So many bits 1, and one bit 0. */
    private void putOnes(int count) {
      put((2 << count) - 2, count + 1);
    }

    /** The lowest bits of a number, the highest of them first. */
    private void put(int number, int length) {
      for (int bit = length - 1; bit >= 0; bit--) {
        int at = bitsWritten / 8;
        if (at < row.length) {
          row[at] |= (number >> bit & 1) << (7 - bitsWritten % 8);
        }
        bitsWritten++;
      }
    }
  }

  /** Shows pictures by the packets that it got. */
  private static final class Viewer {
    final Studio studio = new Studio();
    final int[] screen = new int[POINTS];
    int shownPictures = 0;

    Viewer() {
      Arrays.fill(screen, MID_GREY);
    }

    /** Makes the next picture in the studio, and does not show it yet. */
    void make(Picture picture) {
      studio.lookAhead(screen);
      for (int block = 0; block < BLOCKS; block++) {
        if (picture.got[block / BLOCKS_IN_BAND]) {
          studio.foretell(picture.kind[block], block, picture.vx[block], picture.vy[block]);
          studio.makeBlock(block, picture.q, picture.level);
        } else {
          conceal(picture, block);
        }
      }
      if (picture.isSmoothed && picture.bandsGot() > 0) {
        studio.smooth(picture.q);
      }
    }

    private void conceal(Picture picture, int block) {
      int above = block - BLOCKS_IN_BAND;
      // A block that is neither SKIP nor MOVED holds the vector 0, 0.
      boolean isKnown = above >= 0 && picture.got[above / BLOCKS_IN_BAND];
      int vx = isKnown ? picture.vx[above] : 0;
      int vy = isKnown ? picture.vy[above] : 0;
      studio.foretell(MOVED, block, vx, vy);
      studio.makeForetold(block);
    }

    void takeMade() {
      System.arraycopy(studio.made, 0, screen, 0, POINTS);
      shownPictures++;
    }
  }
}
