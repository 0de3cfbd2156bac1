import java.math.BigInteger;
import java.nio.charset.StandardCharsets;
import java.security.MessageDigest;
import java.security.NoSuchAlgorithmException;

/** Each promise of the document: ordinary inputs, the edges that it names, wrong inputs. */
public final class LimbCurvesPromises {
  private static final int MOST = Integer.MAX_VALUE;
  private static final int LEAST = Integer.MIN_VALUE;
  private static final int NONE = LimbCurves.NONE;
  private static final int[] NO_SLOTS = {-1, 20, MOST, LEAST};
  private static final int[] NO_POINTS = {-1, 0, 3, 12, 19, 20, MOST, LEAST};
  private static final int[] NO_SCALARS = {-1, 0, 3, 4, 11, 20, MOST, LEAST};

  private static int wrong = 0;

  private static void due(int promise, String what, long got, long want) {
    if (got != want) {
      wrong++;
      System.out.println(
          "promise " + promise + ": " + what + " answered " + got + ", due is " + want);
    }
  }

  private static void due(int promise, String what, boolean got, boolean want) {
    due(promise, what, got ? 1 : 0, want ? 1 : 0);
  }

  private static void feed(LimbCurves desk, int slot, int... words) {
    boolean fed = desk.select(slot);
    for (int word : words) {
      fed &= desk.feedLimb(word);
    }
    due(3, "feeding slot " + slot, fed, true);
  }

  private static void feedGreat(LimbCurves desk, int slot, BigInteger... values) {
    int limbs = desk.state(0);
    int[] words = new int[limbs * values.length];
    for (int i = 0; i < words.length; i++) {
      words[i] = values[i / limbs].shiftRight(31 * (i % limbs)).intValue() & MOST;
    }
    feed(desk, slot, words);
  }

  private static BigInteger number(LimbCurves desk, int slot, int from) {
    BigInteger sum = BigInteger.ZERO;
    for (int i = desk.state(0) - 1; i >= 0; i--) {
      sum = sum.shiftLeft(31).add(BigInteger.valueOf(desk.limb(slot, from + i)));
    }
    return sum;
  }

  private static void dueLimbs(int promise, LimbCurves desk, int slot, int... words) {
    for (int i = 0; i < words.length; i++) {
      due(promise, "limb(" + slot + ", " + i + ")", desk.limb(slot, i), words[i]);
    }
  }

  private static void dueFed(int promise, LimbCurves desk, int slot, int count) {
    due(promise, "the slot that is fed", desk.state(2), slot);
    due(promise, "its limbs", desk.state(3), count);
  }

  /** Modulo 23: 28 points with the identity, all of them multiples of (3, 10). */
  private static LimbCurves openDesk23() {
    LimbCurves desk = new LimbCurves(1);
    feed(desk, 0, 23);
    feed(desk, 1, 1);
    feed(desk, 2, 1);
    feed(desk, 3, 28);
    feed(desk, 4, 3, 10);
    feed(desk, 5, 7, 12);
    return desk;
  }

  private static LimbCurves desk23() {
    LimbCurves desk = openDesk23();
    due(4, "seal modulo 23", desk.seal(), 0);
    return desk;
  }

  /** Modulo 35, which is no prime, so that some points have no sum. */
  private static LimbCurves desk35() {
    LimbCurves desk = new LimbCurves(1);
    feed(desk, 0, 35);
    feed(desk, 1, 1);
    feed(desk, 2, 26);
    feed(desk, 3, 31);
    due(4, "seal modulo 35", desk.seal(), 0);
    feed(desk, 4, 2, 1);
    feed(desk, 5, 2, 6);
    feed(desk, 6, 3, 14);
    feed(desk, 7, 12, 4);
    feed(desk, 8, 5, 4);
    return desk;
  }

  private static BigInteger hex(String text) {
    return new BigInteger(text.replace(" ", ""), 16);
  }

  private static void newObject() {
    int[] given = {1, 2, 5, 8, 9, 0, -1, LEAST, 10, 99, MOST};
    int[] limbs = {1, 2, 5, 8, 9, 1, 1, 1, 9, 9, 9};
    for (int i = 0; i < given.length; i++) {
      LimbCurves desk = new LimbCurves(given[i]);
      due(1, "L of " + given[i], desk.state(0), limbs[i]);
      due(1, "sealed at first", desk.state(1), 0);
      dueFed(1, desk, NONE, 0);
      due(1, "feedLimb at first", desk.feedLimb(1), false);
      for (int slot = 0; slot < 20; slot++) {
        boolean point = slot >= 4 && slot <= 11;
        int count = point ? 2 * limbs[i] : limbs[i];
        for (int at = 0; at < count; at++) {
          due(1, "limb(" + slot + ", " + at + ") at first", desk.limb(slot, at), 0);
        }
        due(1, "limb past the last", desk.limb(slot, count), NONE);
        due(1, "isInfinity(" + slot + ") at first", desk.isInfinity(slot), point);
      }
    }
    due(1, "NONE", NONE, -1);
  }

  private static void selectSlots() {
    LimbCurves desk = openDesk23();
    for (int slot = 0; slot < 20; slot++) {
      due(2, "select(" + slot + ")", desk.select(slot), true);
      dueFed(2, desk, slot, 0);
      due(2, "limb of a slot that was selected", desk.limb(slot, 0), 0);
    }
    due(2, "isInfinity(4) once it is selected", desk.isInfinity(4), true);
    for (int slot : NO_SLOTS) {
      due(2, "select(" + slot + ")", desk.select(slot), false);
      dueFed(2, desk, 19, 0);
    }
    feed(desk, 19, 77);
    due(2, "limb(19, 0)", desk.limb(19, 0), 77);

    desk = new LimbCurves(3);
    feed(desk, 5, 1, 2, 3, 4);
    due(2, "select(5) again", desk.select(5), true);
    dueLimbs(2, desk, 5, 0, 0, 0, 0, 0, 0);
    due(2, "isInfinity(5)", desk.isInfinity(5), true);
    dueFed(2, desk, 5, 0);
    desk.feedLimb(9);
    dueLimbs(2, desk, 5, 9, 0, 0, 0, 0, 0);
    feed(desk, 12, 5);
    due(2, "select(20)", desk.select(20), false);
    dueFed(2, desk, 12, 1);

    desk = desk23();
    feed(desk, 12);
    for (int slot = 0; slot < 4; slot++) {
      due(2, "select(" + slot + ") while sealed", desk.select(slot), false);
    }
    dueFed(2, desk, 12, 0);
    due(2, "P while sealed", desk.limb(0, 0), 23);
    due(2, "select(4) while sealed", desk.select(4), true);
    desk.open();
    due(2, "select(0) once it is open", desk.select(0), true);
    due(2, "P once it is selected", desk.limb(0, 0), 0);
  }

  private static void feedLimbs() {
    LimbCurves desk = new LimbCurves(2);
    due(3, "feedLimb without a slot", desk.feedLimb(0), false);
    desk.select(13);
    due(3, "feedLimb(-1)", desk.feedLimb(-1), false);
    due(3, "feedLimb of the least", desk.feedLimb(LEAST), false);
    dueFed(3, desk, 13, 0);
    due(3, "feedLimb of the greatest", desk.feedLimb(MOST), true);
    dueFed(3, desk, 13, 1);
    due(3, "feedLimb(-5)", desk.feedLimb(-5), false);
    dueFed(3, desk, 13, 1);
    due(3, "feedLimb(6)", desk.feedLimb(6), true);
    dueFed(3, desk, NONE, 0);
    due(3, "feedLimb past the last", desk.feedLimb(7), false);
    dueLimbs(3, desk, 13, MOST, 6);
    dueLimbs(3, desk, 12, 0, 0);
    dueLimbs(3, desk, 14, 0, 0);

    desk.select(11);
    due(3, "the identity till the first limb", desk.isInfinity(11), true);
    desk.feedLimb(-1);
    due(3, "the identity still", desk.isInfinity(11), true);
    desk.feedLimb(0);
    due(3, "a pair from the first limb on", desk.isInfinity(11), false);
    for (int i = 1; i < 4; i++) {
      dueFed(3, desk, 11, i);
      due(3, "feedLimb of a point", desk.feedLimb(10 + i), true);
    }
    dueFed(3, desk, NONE, 0);
    due(3, "feedLimb past a point's last", desk.feedLimb(1), false);
    dueLimbs(3, desk, 11, 0, 11, 12, 13);
    feed(desk, 0, 1, 2);
    dueFed(3, desk, NONE, 0);
  }

  private static int sealWith(int limbs, int[] p, int a, int b) {
    LimbCurves desk = new LimbCurves(limbs);
    feed(desk, 0, p);
    feed(desk, 1, a);
    feed(desk, 2, b);
    int answer = desk.seal();
    due(4, "sealed after " + answer, desk.state(1), answer == 0 ? 1 : 0);
    return answer;
  }

  private static void seal() {
    for (int p = 0; p <= 4; p++) {
      due(4, "seal with p = " + p, sealWith(1, new int[] {p}, 0, 1), 1);
      due(4, "seal with p = " + p + ", L = 2", sealWith(2, new int[] {p}, 0, 1), 1);
    }
    due(4, "seal with p = 5", sealWith(1, new int[] {5}, 0, 1), 0);
    due(4, "seal with p = 6", sealWith(1, new int[] {6}, 0, 1), 1);
    due(4, "seal with p = 9", sealWith(1, new int[] {9}, 1, 1), 0);
    due(4, "seal with p = 2^31", sealWith(2, new int[] {0, 1}, 1, 1), 1);
    due(4, "seal with p = 2^31 + 1", sealWith(2, new int[] {1, 1}, 1, 1), 0);
    due(4, "seal with p = 2^31 + 3", sealWith(2, new int[] {3, 1}, 1, 1), 0);
    due(4, "seal with all limbs at most", sealWith(2, new int[] {MOST, MOST}, 1, 1), 0);
    due(4, "seal, p and A bad", sealWith(1, new int[] {4}, 4, 1), 1);
    due(4, "seal, A = p", sealWith(1, new int[] {7}, 7, 1), 2);
    due(4, "seal, A above p", sealWith(1, new int[] {7}, MOST, 1), 2);
    due(4, "seal, B = p", sealWith(1, new int[] {7}, 1, 7), 2);
    due(4, "seal, A = p and the curve singular", sealWith(1, new int[] {7}, 7, 0), 2);
    due(4, "seal, A and B p - 1", sealWith(1, new int[] {7}, 6, 6), 0);
    due(4, "seal, A = B = 0", sealWith(1, new int[] {7}, 0, 0), 3);
    for (int a = 0; a < 31; a++) {
      for (int b = 0; b < 31; b++) {
        int want = (4 * a * a * a + 27 * b * b) % 31 == 0 ? 3 : 0;
        due(4, "seal, 31, " + a + ", " + b, sealWith(1, new int[] {31}, a, b), want);
      }
    }

    LimbCurves desk = openDesk23();
    desk.select(3);
    due(4, "seal while ORDER is fed", desk.seal(), 0);
    dueFed(4, desk, NONE, 0);
    due(4, "seal again", desk.seal(), 4);
    due(4, "sealed still", desk.state(1), 1);
    due(4, "feedLimb once it is sealed", desk.feedLimb(1), false);
    desk.open();
    dueFed(4, desk, NONE, 0);
    desk = new LimbCurves(2);
    feed(desk, 0, 5);
    due(4, "seal, 4 A A A + 27 B B is 0", desk.seal(), 3);
    dueFed(4, desk, 0, 1);
    feed(desk, 2, 1);
    feed(desk, 7, 1, 2, 3);
    due(4, "seal while a point is fed", desk.seal(), 0);
    dueFed(4, desk, 7, 3);
    due(4, "seal again while a point is fed", desk.seal(), 4);
    dueFed(4, desk, 7, 3);
  }

  private static void open() {
    LimbCurves desk = openDesk23();
    due(5, "open while open", desk.open(), false);
    desk.seal();
    desk.select(12);
    due(5, "open while sealed", desk.open(), true);
    due(5, "sealed once it is open", desk.state(1), 0);
    due(5, "open again", desk.open(), false);
    dueFed(5, desk, 12, 0);
    dueLimbs(5, desk, 0, 23);
    dueLimbs(5, desk, 3, 28);
    dueLimbs(5, desk, 4, 3, 10);
    due(5, "seal once it is open", desk.seal(), 0);
    due(5, "onCurve(4) once it is sealed again", desk.onCurve(4), true);
  }

  private static void limbs() {
    LimbCurves desk = new LimbCurves(3);
    feed(desk, 2, 1, 2, 3);
    feed(desk, 4, 4, 5, 6, 7, 8, 9);
    feed(desk, 19, 10, 11);
    dueLimbs(6, desk, 2, 1, 2, 3, NONE, NONE, NONE, NONE);
    dueLimbs(6, desk, 4, 4, 5, 6, 7, 8, 9, NONE);
    dueLimbs(6, desk, 19, 10, 11, 0, NONE);
    dueLimbs(6, desk, 11, 0, 0, 0, 0, 0, 0, NONE);
    for (int slot : NO_SLOTS) {
      due(6, "limb(" + slot + ", 0)", desk.limb(slot, 0), NONE);
    }
    for (int i : new int[] {-1, LEAST, MOST}) {
      due(6, "limb(2, " + i + ")", desk.limb(2, i), NONE);
      due(6, "limb(4, " + i + ")", desk.limb(4, i), NONE);
    }
  }

  private static void onCurve() {
    LimbCurves desk = openDesk23();
    due(7, "onCurve(4) while open", desk.onCurve(4), false);
    due(7, "onCurve of the identity while open", desk.onCurve(11), false);
    desk.seal();
    due(7, "onCurve(4)", desk.onCurve(4), true);
    due(7, "onCurve of the identity", desk.onCurve(11), true);
    for (int slot : NO_POINTS) {
      due(7, "onCurve(" + slot + ")", desk.onCurve(slot), false);
    }
    int found = 0;
    for (int x = 0; x < 25; x++) {
      desk = desk23();
      for (int y = 0; y < 25; y++) {
        feed(desk, 6, x, y);
        boolean lies = x < 23 && y < 23 && (y * y - x * x * x - x - 1) % 23 == 0;
        found += lies ? 1 : 0;
        due(7, "onCurve of (" + x + ", " + y + ")", desk.onCurve(6), lies);
      }
    }
    due(7, "pairs on the curve", found, 27);
    feed(desk, 6, 26, 10);
    due(7, "onCurve with X above p", desk.onCurve(6), false);
    feed(desk, 6, 3, 33);
    due(7, "onCurve with Y above p", desk.onCurve(6), false);
    feed(desk, 6, 4);
    due(7, "onCurve of (4, 0) that is fed still", desk.onCurve(6), true);
    desk.open();
    due(7, "onCurve(4) once it is open", desk.onCurve(4), false);
  }

  private static void isInfinity() {
    LimbCurves desk = openDesk23();
    due(8, "isInfinity of a pair", desk.isInfinity(4), false);
    due(8, "isInfinity(6) while open", desk.isInfinity(6), true);
    feed(desk, 6, 0);
    due(8, "isInfinity of (0, 0)", desk.isInfinity(6), false);
    desk.seal();
    due(8, "isInfinity(11) while sealed", desk.isInfinity(11), true);
    for (int slot : NO_POINTS) {
      due(8, "isInfinity(" + slot + ")", desk.isInfinity(slot), false);
    }
  }

  private static void dueNoSum(int promise, String call, LimbCurves desk, boolean got) {
    due(promise, call, got, false);
    dueLimbs(promise, desk, 9, 21, 22);
    dueFed(promise, desk, 10, 1);
  }

  /** Slot 9 is (21, 22) and slot 10 is fed: a call that is refused leaves both as they are. */
  private static void setTraps(LimbCurves desk) {
    feed(desk, 9, 21, 22);
    feed(desk, 10, 20);
  }

  private static void addPts() {
    LimbCurves desk = openDesk23();
    setTraps(desk);
    dueNoSum(9, "addPts while open", desk, desk.addPts(9, 4, 5));
    desk.seal();
    for (int slot : NO_POINTS) {
      dueNoSum(9, "addPts(" + slot + ", 4, 5)", desk, desk.addPts(slot, 4, 5));
      dueNoSum(9, "addPts(9, " + slot + ", 5)", desk, desk.addPts(9, slot, 5));
      dueNoSum(9, "addPts(9, 4, " + slot + ")", desk, desk.addPts(9, 4, slot));
    }
    dueNoSum(9, "addPts, x not on the curve", desk, desk.addPts(9, 9, 5));
    dueNoSum(9, "addPts, y not on the curve", desk, desk.addPts(9, 4, 9));
    due(9, "addPts(10, 4, 5)", desk.addPts(10, 4, 5), true);
    dueLimbs(9, desk, 10, 19, 5);
    dueFed(9, desk, NONE, 0);
    due(9, "addPts(4, 4, 5)", desk.addPts(4, 4, 5), true);
    dueLimbs(9, desk, 4, 19, 5);
    due(9, "addPts(5, 4, 5)", desk.addPts(5, 4, 5), true);
    dueLimbs(9, desk, 5, 9, 16);
    due(9, "addPts(6, 4, 4)", desk.addPts(6, 4, 4), true);
    dueLimbs(9, desk, 6, 12, 4);
    due(9, "addPts(6, 6, 6)", desk.addPts(6, 6, 6), true);
    dueLimbs(9, desk, 6, 5, 4);
    due(9, "addPts(7, 11, 6)", desk.addPts(7, 11, 6), true);
    dueLimbs(9, desk, 7, 5, 4);
    due(9, "addPts(7, 4, 11)", desk.addPts(7, 4, 11), true);
    dueLimbs(9, desk, 7, 19, 5);
    due(9, "addPts(7, 11, 11)", desk.addPts(7, 11, 11), true);
    due(9, "the identity added to itself", desk.isInfinity(7), true);
    feed(desk, 8, 5, 19);
    due(9, "addPts of (5, 4) and (5, 19)", desk.addPts(6, 6, 8), true);
    due(9, "their sum", desk.isInfinity(6), true);
    dueLimbs(9, desk, 6, 0, 0);
    feed(desk, 12);
    desk.addPts(6, 4, 8);
    dueFed(9, desk, 12, 0);

    desk = desk35();
    setTraps(desk);
    dueNoSum(9, "addPts, same X, Y + Y not 0 modulo 35", desk, desk.addPts(9, 4, 5));
    dueNoSum(9, "addPts, the slope's divisor is 10", desk, desk.addPts(9, 4, 7));
    dueNoSum(9, "addPts, 28 as divisor modulo 35", desk, desk.addPts(9, 6, 6));
    due(9, "addPts modulo 35", desk.addPts(9, 4, 4), true);
    dueLimbs(9, desk, 9, 12, 4);
  }

  private static void dbl() {
    LimbCurves desk = openDesk23();
    setTraps(desk);
    dueNoSum(10, "dbl while open", desk, desk.dbl(9, 4));
    desk.seal();
    for (int slot : NO_POINTS) {
      dueNoSum(10, "dbl(" + slot + ", 4)", desk, desk.dbl(slot, 4));
      dueNoSum(10, "dbl(9, " + slot + ")", desk, desk.dbl(9, slot));
    }
    dueNoSum(10, "dbl, x not on the curve", desk, desk.dbl(9, 9));
    due(10, "dbl(10, 4)", desk.dbl(10, 4), true);
    dueLimbs(10, desk, 10, 7, 12);
    dueFed(10, desk, NONE, 0);
    due(10, "dbl(10, 10)", desk.dbl(10, 10), true);
    dueLimbs(10, desk, 10, 17, 3);
    due(10, "dbl of the identity", desk.dbl(10, 11), true);
    due(10, "the identity twice", desk.isInfinity(10), true);
    feed(desk, 6, 4, 0);
    due(10, "dbl of (4, 0)", desk.dbl(7, 6), true);
    due(10, "(4, 0) twice", desk.isInfinity(7), true);

    desk = desk35();
    setTraps(desk);
    dueNoSum(10, "dbl of (3, 14) modulo 35", desk, desk.dbl(9, 6));
    due(10, "dbl of (2, 1) modulo 35", desk.dbl(6, 4), true);
    dueLimbs(10, desk, 6, 12, 4);
  }

  private static void scalarMul() {
    LimbCurves desk = openDesk23();
    setTraps(desk);
    dueNoSum(11, "scalarMul while open", desk, desk.scalarMul(9, 12, 4));
    desk.seal();
    for (int slot : NO_POINTS) {
      dueNoSum(11, "scalarMul(" + slot + ", 12, 4)", desk, desk.scalarMul(slot, 12, 4));
      dueNoSum(11, "scalarMul(9, 12, " + slot + ")", desk, desk.scalarMul(9, 12, slot));
    }
    for (int slot : NO_SCALARS) {
      dueNoSum(11, "scalarMul(9, " + slot + ", 4)", desk, desk.scalarMul(9, slot, 4));
    }
    dueNoSum(11, "scalarMul, x not on the curve", desk, desk.scalarMul(9, 12, 9));
    due(11, "0 times", desk.scalarMul(10, 12, 4), true);
    due(11, "0 times a point", desk.isInfinity(10), true);
    dueFed(11, desk, NONE, 0);
    int[] x = {3, 7, 19, 17, 9, 12, 11, 13, 0, 6, 18, 5, 1, 4};
    int[] y = {10, 12, 5, 3, 16, 4, 3, 16, 1, 4, 20, 4, 7, 0};
    for (int k = 1; k < 28; k++) {
      int at = k <= 14 ? k - 1 : 27 - k;
      feed(desk, 19, k);
      due(11, k + " times", desk.scalarMul(6, 19, 4), true);
      dueLimbs(11, desk, 6, x[at], k <= 14 ? y[at] : 23 - y[at]);
    }
    feed(desk, 12, 28);
    due(11, "28 times", desk.scalarMul(6, 12, 4), true);
    due(11, "28 times (3, 10)", desk.isInfinity(6), true);
    feed(desk, 12, MOST);
    due(11, "2^31 - 1 times", desk.scalarMul(4, 12, 4), true);
    dueLimbs(11, desk, 4, 1, 16);
    due(11, "times the identity", desk.scalarMul(4, 12, 11), true);
    due(11, "the identity many times", desk.isInfinity(4), true);

    desk = desk35();
    setTraps(desk);
    int[] hasSum = {1, 1, 1, 0, 1, 0, 0, 0, 1, 0, 0, 0, 0, 0};
    for (int k = 0; k < hasSum.length; k++) {
      feed(desk, 12, k);
      feed(desk, 9, 21, 22);
      due(11, k + " times (2, 1) modulo 35", desk.scalarMul(9, 12, 4), hasSum[k] == 1);
      if (hasSum[k] == 0) {
        dueLimbs(11, desk, 9, 21, 22);
      }
    }
    feed(desk, 12, 9);
    due(11, "9 times (5, 4) modulo 35", desk.scalarMul(9, 12, 8), true);
    due(11, "it is the identity", desk.isInfinity(9), true);
    feed(desk, 12, 18);
    due(11, "18 times (5, 4) modulo 35", desk.scalarMul(9, 12, 8), true);
    feed(desk, 12, 19);
    due(11, "19 times (5, 4) modulo 35", desk.scalarMul(9, 12, 8), true);
    dueLimbs(11, desk, 9, 5, 4);
    feed(desk, 12, 27);
    due(11, "27 times (5, 4) modulo 35", desk.scalarMul(9, 12, 8), false);
    feed(desk, 12, MOST - 1);
    due(11, "2^31 - 2 times (12, 4) modulo 35", desk.scalarMul(9, 12, 7), true);
    due(11, "which is the identity", desk.isInfinity(9), true);
  }

  private static void negate() {
    LimbCurves desk = openDesk23();
    setTraps(desk);
    dueNoSum(12, "negate while open", desk, desk.negate(9, 4));
    desk.seal();
    for (int slot : NO_POINTS) {
      dueNoSum(12, "negate(" + slot + ", 4)", desk, desk.negate(slot, 4));
      dueNoSum(12, "negate(9, " + slot + ")", desk, desk.negate(9, slot));
    }
    dueNoSum(12, "negate, x not on the curve", desk, desk.negate(9, 9));
    due(12, "negate(10, 4)", desk.negate(10, 4), true);
    dueLimbs(12, desk, 10, 3, 13);
    dueFed(12, desk, NONE, 0);
    due(12, "negate(10, 10)", desk.negate(10, 10), true);
    dueLimbs(12, desk, 10, 3, 10);
    feed(desk, 6, 4, 0);
    due(12, "negate of (4, 0)", desk.negate(7, 6), true);
    dueLimbs(12, desk, 7, 4, 0);
    due(12, "isInfinity of (4, 0)", desk.isInfinity(7), false);
    due(12, "negate of the identity", desk.negate(7, 11), true);
    due(12, "it is the identity", desk.isInfinity(7), true);
    dueLimbs(12, desk, 7, 0, 0);
    desk.select(8);
    due(12, "negate into a slot that is fed", desk.negate(8, 8), true);
    dueFed(12, desk, NONE, 0);
  }

  private static void isSame() {
    LimbCurves desk = new LimbCurves(2);
    feed(desk, 4, 1, 2, 3, 4);
    feed(desk, 5, 1, 2, 3, 4);
    feed(desk, 6, 1, 2, 3, 5);
    feed(desk, 7, 0, 2, 3, 4);
    feed(desk, 8, 0);
    feed(desk, 12, 1, 2);
    feed(desk, 13, 1, 2);
    due(13, "isSame(4, 5)", desk.isSame(4, 5), true);
    due(13, "isSame(4, 4)", desk.isSame(4, 4), true);
    due(13, "isSame, other Y", desk.isSame(4, 6), false);
    due(13, "isSame, other X", desk.isSame(4, 7), false);
    due(13, "isSame, two identities", desk.isSame(10, 11), true);
    due(13, "isSame, (0, 0) and the identity", desk.isSame(8, 11), false);
    due(13, "isSame, the identity and (0, 0)", desk.isSame(11, 8), false);
    due(13, "isSame, (0, 0) twice", desk.isSame(8, 8), true);
    due(13, "isSame of scalars", desk.isSame(12, 13), false);
    for (int slot : NO_POINTS) {
      due(13, "isSame(" + slot + ", 11)", desk.isSame(slot, 11), false);
      due(13, "isSame(11, " + slot + ")", desk.isSame(11, slot), false);
      due(13, "isSame(" + slot + ", itself)", desk.isSame(slot, slot), false);
    }
  }

  private static int verifyOf(LimbCurves desk, int e, int r, int s) {
    feed(desk, 12, e);
    feed(desk, 13, r);
    feed(desk, 14, s);
    return desk.verify(5, 4, 12, 13, 14);
  }

  private static void verify() {
    LimbCurves desk = openDesk23();
    due(14, "verify while open", verifyOf(desk, 1, 1, 11), NONE);
    desk.seal();
    due(14, "verify of 1, 1, 11", verifyOf(desk, 1, 1, 11), 1);
    due(14, "verify of 1, 18, 11", verifyOf(desk, 1, 18, 11), 1);
    due(14, "verify of 29, 18, 11 (e above n)", verifyOf(desk, 29, 18, 11), 1);
    due(14, "verify of 2, 12, 5", verifyOf(desk, 2, 12, 5), 1);
    due(14, "verify of 3, 12, 5", verifyOf(desk, 3, 12, 5), 0);
    due(14, "verify, r 0", verifyOf(desk, 1, 0, 11), 0);
    due(14, "verify, s 0", verifyOf(desk, 1, 1, 0), 0);
    due(14, "verify, r = n", verifyOf(desk, 1, 28, 11), 0);
    due(14, "verify, r + n for r", verifyOf(desk, 1, 29, 11), 0);
    due(14, "verify, s + n for s", verifyOf(desk, 1, 1, 39), 0);
    due(14, "verify, s without an inverse", verifyOf(desk, 1, 1, 14), 0);
    due(14, "verify, the sum is the identity", verifyOf(desk, 26, 1, 1), 0);
    verifyOf(desk, 1, 1, 11);
    for (int slot : NO_POINTS) {
      due(14, "verify, q " + slot, desk.verify(slot, 4, 12, 13, 14), NONE);
      due(14, "verify, g " + slot, desk.verify(5, slot, 12, 13, 14), NONE);
    }
    for (int slot : NO_SCALARS) {
      due(14, "verify, e " + slot, desk.verify(5, 4, slot, 13, 14), NONE);
      due(14, "verify, r " + slot, desk.verify(5, 4, 12, slot, 14), NONE);
      due(14, "verify, s " + slot, desk.verify(5, 4, 12, 13, slot), NONE);
    }
    feed(desk, 6, 3, 11);
    due(14, "verify, q not on the curve", desk.verify(6, 4, 12, 13, 14), NONE);
    due(14, "verify, g not on the curve", desk.verify(5, 6, 12, 13, 14), NONE);
    due(14, "verify, identities", desk.verify(11, 11, 12, 13, 14), 0);
    dueLimbs(14, desk, 4, 3, 10);
    dueLimbs(14, desk, 5, 7, 12);
    dueLimbs(14, desk, 12, 1);
    dueLimbs(14, desk, 14, 11);
  }

  private static void verifyWithOtherOrders() {
    LimbCurves desk = openDesk23();
    desk.select(3);
    desk.seal();
    due(14, "verify, ORDER 0", verifyOf(desk, 1, 1, 11), NONE);
    desk.open();
    feed(desk, 3, 1);
    desk.seal();
    due(14, "verify, ORDER 1", verifyOf(desk, 0, 1, 1), 0);
    desk.open();
    feed(desk, 3, 11);
    desk.seal();
    // 2 times (7, 12) is (17, 3), and 17 modulo 11 is 6: w = 4 makes 2 of 6 modulo 11.
    due(14, "verify, X above ORDER", verifyOf(desk, 0, 6, 3), 1);
    due(14, "verify, X itself for r", verifyOf(desk, 0, 17, 3), 0);

    desk = desk35();
    due(14, "verify, 3 times (2, 1) modulo 35", verifyOf(desk, 3, 1, 1), -2);
    due(14, "verify, 3 times (2, 6) modulo 35", verifyOf(desk, 1, 3, 1), -2);
    due(14, "verify, (2, 1) and (2, 6) modulo 35", verifyOf(desk, 1, 1, 1), -2);
    due(14, "verify, r 0 comes before NO SUM", verifyOf(desk, 3, 0, 1), 0);
    due(14, "verify, s 0 comes before NO SUM", verifyOf(desk, 3, 1, 0), 0);
    due(14, "verify, r = n comes before NO SUM", verifyOf(desk, 3, 31, 1), 0);
    due(14, "verify, a sum modulo 35", verifyOf(desk, 0, 2, 2), 1);
  }

  private static void dueReckon(LimbCurves desk, int what, int x, int y, int want) {
    feed(desk, 12, x);
    feed(desk, 13, y);
    String call = "reckon(" + what + ") of " + x + " and " + y;
    due(15, call, desk.reckon(what, 14, 12, 13), true);
    due(15, call + ", the number", desk.limb(14, 0), want);
  }

  private static void dueRefused(LimbCurves desk, int what, int dst, int x, int y) {
    String call = "reckon(" + what + ", " + dst + ", " + x + ", " + y + ")";
    due(15, call, desk.reckon(what, dst, x, y), false);
    dueLimbs(15, desk, 15, 99);
    dueFed(15, desk, 16, 0);
  }

  private static void reckon() {
    LimbCurves desk = openDesk23();
    dueReckon(desk, 0, 20, 7, 27);
    dueReckon(desk, 0, 20, 8, 0);
    dueReckon(desk, 0, 27, 27, 26);
    dueReckon(desk, 0, 100, 1000, 8);
    dueReckon(desk, 0, MOST, MOST, 2);
    dueReckon(desk, 1, 20, 7, 13);
    dueReckon(desk, 1, 7, 20, 15);
    dueReckon(desk, 1, 7, 7, 0);
    dueReckon(desk, 1, 28, 57, 27);
    dueReckon(desk, 1, 0, MOST, 13);
    dueReckon(desk, 2, 27, 27, 1);
    dueReckon(desk, 2, 14, 2, 0);
    dueReckon(desk, 2, MOST, MOST, 1);
    dueReckon(desk, 3, 3, 0, 19);
    dueReckon(desk, 3, 31, 0, 19);
    dueReckon(desk, 3, 27, 0, 27);
    dueReckon(desk, 3, 1, 0, 1);
  }

  private static void reckonRefused() {
    LimbCurves desk = openDesk23();
    feed(desk, 15, 99);
    feed(desk, 12, 3);
    feed(desk, 16);
    for (int slot : NO_SCALARS) {
      for (int what = 0; what <= 3; what++) {
        dueRefused(desk, what, slot, 12, 12);
        dueRefused(desk, what, 15, slot, 12);
      }
      for (int what = 0; what <= 2; what++) {
        dueRefused(desk, what, 15, 12, slot);
      }
    }
    for (int what : new int[] {-1, 4, MOST, LEAST}) {
      dueRefused(desk, what, 15, 12, 12);
    }
    dueRefused(desk, 3, 15, 17, 12);
    for (int slot : NO_SCALARS) {
      due(15, "reckon(3), y " + slot, desk.reckon(3, 14, 12, slot), true);
    }
  }

  private static void reckonOnEdges() {
    LimbCurves desk = openDesk23();
    feed(desk, 12, 14);
    due(15, "reckon(3) of 14 modulo 28", desk.reckon(3, 12, 12, 12), false);
    dueLimbs(15, desk, 12, 14);
    feed(desk, 12, 13);
    due(15, "reckon into its own operand", desk.reckon(2, 12, 12, 12), true);
    dueLimbs(15, desk, 12, 1);
    desk.select(13);
    due(15, "reckon into the slot that is fed", desk.reckon(0, 13, 12, 12), true);
    dueFed(15, desk, NONE, 0);
    desk.seal();
    due(15, "reckon while sealed", desk.reckon(0, 13, 13, 12), true);
    dueLimbs(15, desk, 13, 3);
    desk.open();
    feed(desk, 3, 1);
    for (int what = 0; what <= 3; what++) {
      dueReckon(desk, what, 5, 6, 0);
    }
    dueReckon(desk, 3, 0, 0, 0);
    feed(desk, 3, 2);
    dueReckon(desk, 3, 5, 0, 1);
    feed(desk, 15, 99);
    desk.select(3);
    desk.select(16);
    for (int what = 0; what <= 3; what++) {
      dueRefused(desk, what, 15, 12, 12);
    }
  }

  private static void reckonGreatNumbers() {
    LimbCurves desk = new LimbCurves(9);
    BigInteger most = BigInteger.ONE.shiftLeft(279).subtract(BigInteger.ONE);
    BigInteger[] orders = {
      most, most.subtract(BigInteger.ONE), most.shiftRight(1).add(BigInteger.ONE),
      most.shiftRight(31), most.shiftRight(140).add(BigInteger.TWO), BigInteger.TEN
    };
    BigInteger one = most.subtract(BigInteger.valueOf(7));
    BigInteger other = most.divide(BigInteger.valueOf(3));
    feedGreat(desk, 12, one);
    feedGreat(desk, 13, other);
    for (BigInteger n : orders) {
      feedGreat(desk, 3, n);
      BigInteger[] wants = {one.add(other), one.subtract(other), one.multiply(other)};
      for (int what = 0; what <= 2; what++) {
        due(15, "reckon of 9 limbs", desk.reckon(what, 14, 12, 13), true);
        boolean same = number(desk, 14, 0).equals(wants[what].mod(n));
        due(15, "reckon(" + what + ") modulo " + n, same, true);
      }
      boolean inverse = one.gcd(n).equals(BigInteger.ONE);
      due(15, "reckon(3) modulo " + n, desk.reckon(3, 14, 12, 0), inverse);
      if (inverse) {
        due(15, "the inverse", number(desk, 14, 0).equals(one.modInverse(n)), true);
      }
    }
  }

  private static void state() {
    LimbCurves desk = new LimbCurves(4);
    due(16, "state(0)", desk.state(0), 4);
    due(16, "state(1)", desk.state(1), 0);
    dueFed(16, desk, NONE, 0);
    desk.select(0);
    dueFed(16, desk, 0, 0);
    desk.feedLimb(23);
    dueFed(16, desk, 0, 1);
    feed(desk, 2, 1, 0);
    dueFed(16, desk, 2, 2);
    desk.seal();
    due(16, "state(1) while sealed", desk.state(1), 1);
    dueFed(16, desk, NONE, 0);
    feed(desk, 8, 1, 2, 3, 4, 5, 6, 7);
    dueFed(16, desk, 8, 7);
    desk.feedLimb(8);
    dueFed(16, desk, NONE, 0);
    desk.open();
    due(16, "state(1) once it is open", desk.state(1), 0);
    for (int what : new int[] {-1, 4, MOST, LEAST}) {
      due(16, "state(" + what + ")", desk.state(what), NONE);
    }
  }

  /** The curve secp256k1 as its standard tells it: G, 2 G, n times G. */
  private static void greatCurve() {
    LimbCurves desk = new LimbCurves(9);
    BigInteger p = hex("FFFFFFFF FFFFFFFF FFFFFFFF FFFFFFFF FFFFFFFF FFFFFFFF FFFFFFFE FFFFFC2F");
    BigInteger n = hex("FFFFFFFF FFFFFFFF FFFFFFFF FFFFFFFE BAAEDCE6 AF48A03B BFD25E8C D0364141");
    BigInteger x = hex("79BE667E F9DCBBAC 55A06295 CE870B07 029BFCDB 2DCE28D9 59F2815B 16F81798");
    BigInteger y = hex("483ADA77 26A3C465 5DA4FBFC 0E1108A8 FD17B448 A6855419 9C47D08F FB10D4B8");
    feedGreat(desk, 0, p);
    feedGreat(desk, 2, BigInteger.valueOf(7));
    feedGreat(desk, 3, n);
    due(4, "seal secp256k1", desk.seal(), 0);
    feedGreat(desk, 4, x, y);
    due(7, "onCurve of G", desk.onCurve(4), true);
    due(10, "dbl of G", desk.dbl(5, 4), true);
    String twice = "C6047F94 41ED7D6D 3045406E 95C07CD8 5C778E4B 8CEF3CA7 ABAC09B9 5C709EE5";
    due(10, "X of 2 G", number(desk, 5, 0).equals(hex(twice)), true);
    feedGreat(desk, 12, n);
    due(11, "n times G", desk.scalarMul(6, 12, 4), true);
    due(11, "n times G is the identity", desk.isInfinity(6), true);
    feedGreat(desk, 12, n.subtract(BigInteger.ONE));
    due(11, "n - 1 times G", desk.scalarMul(6, 12, 4), true);
    due(12, "negate of G", desk.negate(7, 4), true);
    due(13, "isSame of n - 1 times G and - G", desk.isSame(6, 7), true);
    due(9, "G and - G", desk.addPts(8, 4, 6), true);
    due(9, "their sum is the identity", desk.isInfinity(8), true);
  }

  /** The signature of "sample" with SHA-256 over P-256 in RFC 6979, A.2.5. */
  private static void greatSignature() throws NoSuchAlgorithmException {
    LimbCurves desk = new LimbCurves(9);
    BigInteger p = hex("FFFFFFFF 00000001 00000000 00000000 00000000 FFFFFFFF FFFFFFFF FFFFFFFF");
    feedGreat(desk, 0, p);
    feedGreat(desk, 1, p.subtract(BigInteger.valueOf(3)));
    feedGreat(desk, 2,
        hex("5AC635D8 AA3A93E7 B3EBBD55 769886BC 651D06B0 CC53B0F6 3BCE3C3E 27D2604B"));
    feedGreat(desk, 3,
        hex("FFFFFFFF 00000000 FFFFFFFF FFFFFFFF BCE6FAAD A7179E84 F3B9CAC2 FC632551"));
    due(4, "seal P-256", desk.seal(), 0);
    feedGreat(desk, 4,
        hex("6B17D1F2 E12C4247 F8BCE6E5 63A440F2 77037D81 2DEB33A0 F4A13945 D898C296"),
        hex("4FE342E2 FE1A7F9B 8EE7EB4A 7C0F9E16 2BCE3357 6B315ECE CBB64068 37BF51F5"));
    feedGreat(desk, 5,
        hex("60FED4BA 255A9D31 C961EB74 C6356D68 C049B892 3B61FA6C E669622E 60F29FB6"),
        hex("7903FE10 08B8BC99 A41AE9E9 5628BC64 F2F1B20C 2D7E9F51 77A3C294 D4462299"));
    byte[] digest = MessageDigest.getInstance("SHA-256")
        .digest("sample".getBytes(StandardCharsets.US_ASCII));
    BigInteger e = new BigInteger(1, digest);
    feedGreat(desk, 12, e);
    feedGreat(desk, 13,
        hex("EFD48B2A ACB6A8FD 1140DD9C D45E81D6 9D2C877B 56AAF991 C34D0EA8 4EAF3716"));
    feedGreat(desk, 14,
        hex("F7CB1C94 2D657C41 D436C7A1 B6E29F65 F3E900DB B9AFF406 4DC4AB2F 843ACDA8"));
    due(14, "verify of RFC 6979", desk.verify(5, 4, 12, 13, 14), 1);
    due(14, "verify with q and g the other way round", desk.verify(4, 5, 12, 13, 14), 0);
    feedGreat(desk, 12, e.add(BigInteger.ONE));
    due(14, "verify of another e", desk.verify(5, 4, 12, 13, 14), 0);
  }

  public static void main(String[] args) throws NoSuchAlgorithmException {
    newObject();
    selectSlots();
    feedLimbs();
    seal();
    open();
    limbs();
    onCurve();
    isInfinity();
    addPts();
    dbl();
    scalarMul();
    negate();
    isSame();
    verify();
    verifyWithOtherOrders();
    reckon();
    reckonRefused();
    reckonOnEdges();
    reckonGreatNumbers();
    state();
    greatCurve();
    greatSignature();
    System.out.println(wrong == 0 ? "all answers are as due" : wrong + " answers are not as due");
    if (wrong != 0) {
      System.exit(1);
    }
  }
}
