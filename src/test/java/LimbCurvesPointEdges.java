import java.math.BigInteger;
import java.util.ArrayList;
import java.util.List;
import java.util.function.Predicate;

/** The edges that the document names of points, their sums and multiples: promises 7 to 13. */
public final class LimbCurvesPointEdges {
  private static final int MOST = Desk.MOST;
  private static final BigInteger ONE = BigInteger.ONE;
  private static final BigInteger THREE = BigInteger.valueOf(3);

  /** k times (3, 10) modulo 23 with A = B = 1, k from 1 on; 28 times is the identity. */
  private static final int[][] MULTIPLES = {
    {3, 10}, {7, 12}, {19, 5}, {17, 3}, {9, 16}, {12, 4}, {11, 3}, {13, 16}, {0, 1}, {6, 4},
    {18, 20}, {5, 4}, {1, 7}, {4, 0}, {1, 16}, {5, 19}, {18, 3}, {6, 19}, {0, 22}, {13, 7},
    {11, 20}, {12, 19}, {9, 7}, {17, 20}, {19, 18}, {7, 11}, {3, 13}
  };

  private static void due(Object got, Object want) {
    Desk.due(got, want);
  }

  private static Desk sealed(int limbs, BigInteger p, BigInteger a, BigInteger b) {
    Desk desk = new Desk(limbs).feedGreat(0, p).feedGreat(1, a).feedGreat(2, b);
    due(desk.seal(), 0);
    return desk;
  }

  private static Desk sealed(int p, int a, int b) {
    return sealed(1, BigInteger.valueOf(p), BigInteger.valueOf(a), BigInteger.valueOf(b));
  }

  private static Desk traps23() {
    return Desk.sealed23().withTraps();
  }

  private static Desk traps35() {
    return Desk.sealed35().withTraps();
  }

  private static Desk openTraps23() {
    return Desk.open23().withTraps();
  }

  /** The row of k times (3, 10), or none for the identity. */
  private static int[] multiple(int k) {
    return k % 28 == 0 ? new int[0] : MULTIPLES[k % 28 - 1];
  }

  private static void dueMultiple(Desk desk, int slot, int k) {
    if (k % 28 == 0) {
      desk.dueIdentity(slot);
    } else {
      due(desk.isInfinity(slot), false);
      desk.dueLimbs(slot, multiple(k));
    }
  }

  private static void onTheCurve() {
    Desk.says("A point is ON THE CURVE if it is the identity");
    Desk desk = Desk.sealed23();
    for (int slot = 6; slot <= 11; slot++) {
      due(desk.onCurve(slot), true);
    }
    due(desk.feed(4).onCurve(4), true);
    due(desk.feed(4, 0).onCurve(4), false);
    due(sealed(23, 1, 0).feed(4, 0).onCurve(4), true);

    Desk.says("or its X and Y are below p");
    // (22, 22) modulo 23 needs B = 1 + 1 + A, and (0, 0) needs B = 0.
    desk = sealed(23, 5, 7).feed(4, 22, 22);
    due(desk.onCurve(4), true);
    due(desk.feed(4, 45, 22).onCurve(4), false);
    due(desk.feed(4, 22, 45).onCurve(4), false);
    due(desk.feed(4, 45, 45).onCurve(4), false);
    desk = sealed(23, 1, 0);
    due(desk.feed(4, 0, 0).onCurve(4), true);
    due(desk.feed(4, 23, 0).onCurve(4), false);
    due(desk.feed(4, 0, 23).onCurve(4), false);
    due(desk.feed(4, 23, 23).onCurve(4), false);
    due(desk.feed(4, 46, 0).onCurve(4), false);
    for (int limbs = 2; limbs <= 9; limbs++) {
      BigInteger p = ONE.shiftLeft(31 * limbs - 3).add(ONE);
      BigInteger last = p.subtract(ONE);
      desk = sealed(limbs, p, BigInteger.valueOf(5), BigInteger.valueOf(7));
      due(desk.feedGreat(4, last, last).onCurve(4), true);
      due(desk.feedGreat(4, last, ONE).onCurve(4), true);
      due(desk.feedGreat(4, last.add(p), last).onCurve(4), false);
      due(desk.feedGreat(4, last, ONE.add(p)).onCurve(4), false);
      due(desk.feedGreat(4, last, p).onCurve(4), false);
      desk = sealed(limbs, p, ONE, BigInteger.ZERO);
      due(desk.feedGreat(4, BigInteger.ZERO, BigInteger.ZERO).onCurve(4), true);
      due(desk.feedGreat(4, p, BigInteger.ZERO).onCurve(4), false);
      due(desk.feedGreat(4, BigInteger.ZERO, p).onCurve(4), false);
    }

    Desk.says("and Y Y = X X X + A X + B modulo p");
    for (int p : new int[] {5, 7, 9, 23, 35}) {
      for (int x = 0; x < p + 2; x++) {
        desk = sealed(p, 1, 1);
        for (int y = 0; y < p + 2; y++) {
          boolean lies = x < p && y < p && (x * x * x + x + 1 - y * y) % p == 0;
          due(desk.feed(6, x, y).onCurve(6), lies);
        }
      }
    }
  }

  private static void sumsWithTheIdentity() {
    Desk.says("of the identity and another one, that one");
    for (int k = 0; k < 28; k++) {
      Desk desk = Desk.sealed23().feed(6, multiple(k));
      due(desk.addPts(7, 6, 11), true);
      dueMultiple(desk, 7, k);
      due(desk.addPts(8, 11, 6), true);
      dueMultiple(desk, 8, k);
      due(desk.addPts(6, 11, 6), true);
      dueMultiple(desk, 6, k);
      due(desk.addPts(11, 6, 11), true);
      dueMultiple(desk, 11, k);
    }
    Desk desk = Desk.sealed23();
    due(desk.addPts(4, 10, 11), true);
    desk.dueIdentity(4);
    // Modulo 35 (3, 14) has no sum with itself, but one with the identity.
    desk = Desk.sealed35();
    due(desk.addPts(9, 6, 11), true);
    desk.dueLimbs(9, 3, 14);
    due(desk.addPts(10, 11, 6), true);
    desk.dueLimbs(10, 3, 14);

    Desk.says("x = u and y + v = 0 modulo p: the identity");
    for (int k = 1; k < 28; k++) {
      desk = Desk.sealed23().feed(6, multiple(k)).feed(7, multiple(28 - k));
      due(desk.addPts(8, 6, 7), true);
      desk.dueIdentity(8);
      due(desk.addPts(6, 7, 6), true);
      desk.dueIdentity(6);
    }
    desk = Desk.sealed23().feed(6, 4, 0);
    due(desk.dbl(7, 6), true);
    desk.dueIdentity(7);
    due(desk.addPts(6, 6, 6), true);
    desk.dueIdentity(6);
    // 28 of 35 has no inverse, but (3, 14) and (3, 21) need none.
    desk = Desk.sealed35().feed(9, 3, 21);
    due(desk.addPts(10, 6, 9), true);
    desk.dueIdentity(10);
    desk = sealed(35, 34, 0).feed(4, 1, 0);
    due(desk.dbl(5, 4), true);
    desk.dueIdentity(5);
  }

  private static int inverse(int number, int p) {
    for (int i = 0; i < p; i++) {
      if (Math.floorMod(number, p) * i % p == 1) {
        return i;
      }
    }
    return -1;
  }

  /** The document's sum of small pairs: null is the identity, a row of one number is NO SUM. */
  private static int[] sum(int[] one, int[] other, int a, int p) {
    if (one == null || other == null) {
      return one == null ? other : one;
    }
    boolean chord = one[0] != other[0];
    if (!chord && (one[1] + other[1]) % p == 0) {
      return null;
    }
    int divisor = inverse(chord ? other[0] - one[0] : one[1] + other[1], p);
    if (divisor < 0) {
      return new int[1];
    }
    int slope = (chord ? other[1] - one[1] : 3 * one[0] * one[0] + a) * divisor % p;
    int x = Math.floorMod(slope * slope - one[0] - other[0], p);
    return new int[] {x, Math.floorMod(slope * (one[0] - x) - one[1], p)};
  }

  private static List<int[]> pointsOf(int p, int a, int b) {
    List<int[]> points = new ArrayList<>();
    points.add(null);
    for (int x = 0; x < p; x++) {
      for (int y = 0; y < p; y++) {
        if ((x * x * x + a * x + b - y * y) % p == 0) {
          points.add(new int[] {x, y});
        }
      }
    }
    return points;
  }

  private static void dueSum(Desk desk, int[] one, int[] other, int a, int p) {
    desk.feed(4, one == null ? new int[0] : one).feed(5, other == null ? new int[0] : other);
    desk.feed(6, 1, 1);
    int[] want = sum(one, other, a, p);
    boolean exists = want == null || want.length == 2;
    due(desk.addPts(6, 4, 5), exists);
    due(desk.isInfinity(6), want == null);
    if (want == null) {
      desk.dueIdentity(6);
    } else {
      desk.dueLimbs(6, exists ? want : new int[] {1, 1});
    }
    if (one == other) {
      desk.feed(6, 1, 1);
      due(desk.dbl(6, 4), exists);
      due(desk.isInfinity(6), want == null);
      if (want != null) {
        desk.dueLimbs(6, exists ? want : new int[] {1, 1});
      }
    }
  }

  private static void allSmallSums() {
    Desk.says("the SLOPE is (v - y) / (u - x), if x is not u, and (3 x x + A) / (y + v) if it is;"
        + " with it m: X = m m - x - u, Y = m (x - X) - y; all modulo p");
    int[][] curves = {
      {5, 0, 1}, {5, 1, 1}, {7, 6, 6}, {9, 1, 1}, {15, 4, 1}, {21, 1, 3}, {23, 1, 1}, {25, 2, 1},
      {35, 1, 26}, {35, 34, 0}
    };
    for (int[] curve : curves) {
      List<int[]> points = pointsOf(curve[0], curve[1], curve[2]);
      for (int[] one : points) {
        Desk desk = null;
        for (int i = 0; i < points.size(); i++) {
          if (i % 20 == 0) {
            desk = sealed(curve[0], curve[1], curve[2]);
          }
          dueSum(desk, one, points.get(i), curve[1], curve[0]);
        }
      }
    }
  }

  private static void noSums() {
    Desk.says("if there is none, which cannot be with a prime p, there is NO SUM");
    Desk.refuses(() -> traps35(), desk -> desk.addPts(9, 4, 7));
    Desk.refuses(() -> traps35(), desk -> desk.addPts(9, 7, 4));
    Desk.refuses(() -> traps35(), desk -> desk.addPts(9, 4, 5));
    Desk.refuses(() -> traps35(), desk -> desk.addPts(9, 5, 4));
    Desk.refuses(() -> traps35(), desk -> desk.addPts(9, 6, 6));
    Desk.refuses(() -> traps35(), desk -> desk.dbl(9, 6));
    Desk.says("and there is a sum");
    for (int dst : new int[] {4, 5, 7, 9, 10, 11}) {
      Desk.refuses(() -> traps35(), desk -> desk.addPts(dst, 4, 5));
      Desk.refuses(() -> traps35(), desk -> desk.addPts(dst, 4, 7));
      Desk.refuses(() -> traps35(), desk -> desk.dbl(dst, 6));
      Desk.refuses(() -> traps35().feed(12, 3).feed(10), desk -> desk.scalarMul(dst, 12, 4));
    }
    for (int p : new int[] {5, 7, 23}) {
      List<int[]> points = pointsOf(p, 1, 1);
      for (int[] one : points) {
        for (int[] other : points) {
          Desk desk = sealed(p, 1, 1);
          desk.feed(4, one == null ? new int[0] : one);
          desk.feed(5, other == null ? new int[0] : other);
          due(desk.addPts(6, 4, 5), true);
          due(desk.onCurve(6), true);
        }
      }
    }
  }

  private static BigInteger[] greatSum(BigInteger[] one, BigInteger[] other, BigInteger a,
      BigInteger p) {
    boolean chord = !one[0].equals(other[0]);
    BigInteger below = chord ? other[0].subtract(one[0]) : one[1].add(other[1]);
    BigInteger above = chord ? other[1].subtract(one[1]) : one[0].pow(2).multiply(THREE).add(a);
    if (!below.gcd(p).equals(ONE)) {
      return null;
    }
    BigInteger slope = above.multiply(below.modInverse(p));
    BigInteger x = slope.pow(2).subtract(one[0]).subtract(other[0]).mod(p);
    return new BigInteger[] {x, slope.multiply(one[0].subtract(x)).subtract(one[1]).mod(p)};
  }

  private static void dueGreat(Desk desk, boolean got, int slot, BigInteger[] want) {
    due(got, want != null);
    if (want != null) {
      due(desk.great(slot, 0), want[0]);
      due(desk.great(slot, desk.limbs()), want[1]);
    }
  }

  private static void greatSums() {
    Desk.says("all modulo p");
    for (int limbs = 1; limbs <= 9; limbs++) {
      BigInteger room = ONE.shiftLeft(31 * limbs);
      BigInteger half = room.shiftRight(1);
      BigInteger[] moduli = {
        room.subtract(ONE), room.subtract(THREE), half.add(ONE), half.subtract(ONE),
        room.shiftRight(31).add(BigInteger.valueOf(30)), room.shiftRight(30).add(ONE)
      };
      for (BigInteger modulus : moduli) {
        BigInteger p = modulus.max(BigInteger.valueOf(29));
        BigInteger[] edges = {
          BigInteger.ZERO, ONE, BigInteger.TWO, p.shiftRight(1), p.subtract(BigInteger.TWO),
          p.subtract(ONE)
        };
        for (BigInteger x : edges) {
          for (BigInteger y : edges) {
            greatSumsOf(limbs, p, x, y, p.subtract(x).subtract(ONE));
          }
        }
      }
    }
  }

  private static void greatSumsOf(int limbs, BigInteger p, BigInteger x, BigInteger y,
      BigInteger a) {
    if (!p.testBit(0) || y.signum() == 0) {
      return;
    }
    BigInteger b = y.pow(2).subtract(x.pow(3)).subtract(a.multiply(x)).mod(p);
    BigInteger four = a.pow(3).shiftLeft(2).add(b.pow(2).multiply(BigInteger.valueOf(27)));
    if (four.mod(p).signum() == 0) {
      return;
    }
    Desk desk = sealed(limbs, p, a, b).feedGreat(4, x, y).feed(12, 3);
    due(desk.onCurve(4), true);
    BigInteger[] point = {x, y};
    BigInteger[] twice = greatSum(point, point, a, p);
    dueGreat(desk, desk.dbl(5, 4), 5, twice);
    if (twice != null && !twice[0].equals(x)) {
      BigInteger[] thrice = greatSum(twice, point, a, p);
      dueGreat(desk, desk.addPts(6, 5, 4), 6, thrice);
      dueGreat(desk, desk.addPts(7, 4, 5), 7, thrice);
      dueGreat(desk, desk.scalarMul(8, 12, 4), 8, thrice);
    }
    due(desk.negate(9, 4), true);
    due(desk.great(9, 0), x);
    due(desk.great(9, limbs), p.subtract(y));
    due(desk.addPts(9, 9, 4), true);
    due(desk.isInfinity(9), true);
  }

  private static void multiples() {
    Desk.says("k TIMES a point: the identity at first");
    Desk desk = Desk.sealed23();
    due(desk.scalarMul(6, 12, 4), true);
    desk.dueIdentity(6);
    due(desk.scalarMul(4, 12, 4), true);
    desk.dueIdentity(4);
    desk = Desk.sealed35().feed(12, 0);
    due(desk.scalarMul(6, 12, 6), true);
    desk.dueIdentity(6);
    // 1 times is the identity and the point, so that (3, 14) has it though it can't be doubled.
    desk = Desk.sealed35().feed(12, 1);
    due(desk.scalarMul(9, 12, 6), true);
    desk.dueLimbs(9, 3, 14);

    Desk.says("for each bit of k from the highest on that is 1: what there is is added to itself,"
        + " and, if the bit is 1, the point is added to that");
    for (int k = 0; k < 60; k++) {
      desk = Desk.sealed23().feed(19, k);
      due(desk.scalarMul(11, 19, 4), true);
      dueMultiple(desk, 11, k);
      due(desk.scalarMul(4, 19, 4), true);
      dueMultiple(desk, 4, k);
    }
    for (int k : new int[] {MOST, MOST - 1, 1 << 30, (1 << 30) - 1, (1 << 30) + 1}) {
      desk = Desk.sealed23().feed(12, k);
      due(desk.scalarMul(6, 12, 4), true);
      dueMultiple(desk, 6, k % 28);
      due(desk.scalarMul(6, 12, 11), true);
      desk.dueIdentity(6);
    }
    greatMultiples();

    Desk.says("If one of these has no sum: NO SUM.");
    int[] has = {0, 1, 2, 4, 8, 9, 16, 18, 19};
    for (int k = 0; k < 32; k++) {
      boolean found = false;
      for (int one : has) {
        found |= one == k;
      }
      int times = k;
      if (found) {
        due(Desk.sealed35().feed(12, k).scalarMul(9, 12, 8), true);
      } else {
        Desk.refuses(() -> traps35().feed(12, times).feed(10), one -> one.scalarMul(9, 12, 8));
      }
    }
    // 9 times (5, 4) is the identity, so 19 times goes on from it; but 27 times comes by 3 times.
    desk = Desk.sealed35().feed(12, 19);
    due(desk.scalarMul(9, 12, 8), true);
    desk.dueLimbs(9, 5, 4);
    desk.feed(12, 18);
    due(desk.scalarMul(9, 12, 8), true);
    desk.dueIdentity(9);
  }

  /** Modulo 23 a multiple is told by k modulo 28, however great k is. */
  private static void greatMultiples() {
    for (int limbs = 2; limbs <= 9; limbs++) {
      for (int bits = 30; bits <= 31 * limbs; bits += bits % 31 == 30 ? 1 : 30) {
        for (int more = -1; more <= 1; more++) {
          BigInteger k = ONE.shiftLeft(bits).add(BigInteger.valueOf(more));
          if (k.bitLength() <= 31 * limbs) {
            Desk desk = sealed(limbs, BigInteger.valueOf(23), ONE, ONE);
            desk.feedGreat(4, THREE, BigInteger.TEN).feedGreat(12, k);
            due(desk.scalarMul(6, 12, 4), true);
            int[] want = multiple(k.mod(BigInteger.valueOf(28)).intValue());
            due(desk.isInfinity(6), want.length == 0);
            due(desk.limb(6, 0), want.length == 0 ? 0 : want[0]);
            due(desk.limb(6, limbs), want.length == 0 ? 0 : want[1]);
          }
        }
      }
    }
  }

  private static void whatPointsTell() {
    Desk.says("Whether the desk is SEALED, slot pt a point, and ON THE CURVE.");
    for (int slot = 4; slot <= 11; slot++) {
      due(Desk.open23().onCurve(slot), false);
      due(Desk.sealed23().onCurve(slot), true);
      due(Desk.sealed23().feed(slot, 3, 11).onCurve(slot), false);
    }
    for (int slot : Desk.NO_POINTS) {
      due(Desk.sealed23().onCurve(slot), false);
      due(Desk.open23().onCurve(slot), false);
    }
    Desk desk = Desk.sealed23();
    due(desk.open(), true);
    due(desk.onCurve(4), false);
    due(desk.onCurve(11), false);
    due(desk.seal(), 0);
    due(desk.onCurve(4), true);
    due(desk.feed(6, 4).onCurve(6), true);
    desk.dueFed(6, 1);

    Desk.says("Whether slot pt is a point, and the identity.");
    for (int slot : Desk.NO_POINTS) {
      due(new Desk(1).isInfinity(slot), false);
      due(Desk.sealed23().isInfinity(slot), false);
    }
    due(new Desk(9).isInfinity(4), true);
    due(new Desk(9).isInfinity(11), true);
    due(new Desk(9).feed(11, 0).isInfinity(11), false);
    due(new Desk(9).feed(11, new int[18]).isInfinity(11), false);
    due(Desk.sealed23().isInfinity(4), false);
    due(Desk.sealed23().feed(4).isInfinity(4), true);

    Desk.says("Whether two slots are points, and the same: both the identity, or the same"
        + " numbers.");
    for (int slot : Desk.NO_POINTS) {
      due(new Desk(1).isSame(slot, 4), false);
      due(new Desk(1).isSame(4, slot), false);
      due(new Desk(1).isSame(slot, slot), false);
    }
    due(new Desk(1).feed(12, 5).feed(13, 5).isSame(12, 13), false);
    due(new Desk(1).isSame(4, 11), true);
    due(new Desk(1).feed(4, 0, 0).isSame(4, 11), false);
    due(new Desk(1).feed(4, 0, 0).isSame(11, 4), false);
    due(new Desk(1).feed(4, 0, 0).feed(11, 0, 0).isSame(11, 4), true);
    due(new Desk(1).feed(4, 0).feed(11, 0, 0).isSame(11, 4), true);
    due(new Desk(1).feed(4, 7, 1).isSame(4, 4), true);
    due(Desk.sealed23().feed(6, 3, 10).isSame(4, 6), true);
    due(Desk.sealed23().feed(6, 26, 10).isSame(4, 6), false);
    for (int limbs = 1; limbs <= 9; limbs++) {
      for (int other = 0; other < 2 * limbs; other++) {
        int[] words = new int[2 * limbs];
        desk = new Desk(limbs).feed(4, words);
        words[other] = MOST;
        due(desk.feed(5, words).isSame(4, 5), false);
        due(desk.isSame(5, 4), false);
        due(desk.feed(4, words).isSame(4, 5), true);
      }
    }
  }

  /** Each call of these has good operands otherwise; dst may be any slot. */
  private static void refusedWhileOpen(Predicate<Desk> call) {
    Desk.refuses(() -> openTraps23(), call);
    Desk.refuses(() -> openAgain(), call);
  }

  private static Desk openAgain() {
    Desk desk = traps23();
    due(desk.open(), true);
    return desk;
  }

  private static void refusedSums() {
    Desk.says("whether the desk is SEALED, all three are points, x and y ON THE CURVE");
    refusedWhileOpen(desk -> desk.addPts(9, 4, 5));
    refusedWhileOpen(desk -> desk.addPts(10, 11, 11));
    for (int slot : Desk.NO_POINTS) {
      Desk.refuses(() -> traps23(), desk -> desk.addPts(slot, 4, 5));
      Desk.refuses(() -> traps23(), desk -> desk.addPts(9, slot, 5));
      Desk.refuses(() -> traps23(), desk -> desk.addPts(9, 4, slot));
      Desk.refuses(() -> traps23(), desk -> desk.addPts(9, slot, 11));
      Desk.refuses(() -> traps23(), desk -> desk.addPts(9, 11, slot));
    }
    for (int dst = 4; dst <= 11; dst++) {
      int into = dst;
      Desk.refuses(() -> traps23(), desk -> desk.addPts(into, 9, 5));
      Desk.refuses(() -> traps23(), desk -> desk.addPts(into, 4, 9));
      Desk.refuses(() -> traps23(), desk -> desk.addPts(into, 10, 11));
      Desk.refuses(() -> traps23(), desk -> desk.addPts(into, 11, 10));
    }

    Desk.says("Point dst becomes the sum of x and x: likewise.");
    refusedWhileOpen(desk -> desk.dbl(9, 4));
    refusedWhileOpen(desk -> desk.dbl(10, 11));
    for (int slot : Desk.NO_POINTS) {
      Desk.refuses(() -> traps23(), desk -> desk.dbl(slot, 4));
      Desk.refuses(() -> traps23(), desk -> desk.dbl(9, slot));
    }
    Desk.refuses(() -> traps23(), desk -> desk.dbl(6, 9));
    Desk.refuses(() -> traps23(), desk -> desk.dbl(10, 10));
    for (int k = 0; k < 28; k++) {
      Desk desk = Desk.sealed23().feed(6, multiple(k));
      due(desk.dbl(7, 6), true);
      dueMultiple(desk, 7, 2 * k);
      due(desk.dbl(6, 6), true);
      dueMultiple(desk, 6, 2 * k);
    }
  }

  private static void refusedMultiples() {
    Desk.says("Point dst becomes k times x, k the number in a scalar's slot: likewise.");
    refusedWhileOpen(desk -> desk.scalarMul(9, 15, 4));
    refusedWhileOpen(desk -> desk.scalarMul(10, 12, 11));
    for (int slot : Desk.NO_POINTS) {
      Desk.refuses(() -> traps23(), desk -> desk.scalarMul(slot, 15, 4));
      Desk.refuses(() -> traps23(), desk -> desk.scalarMul(9, 15, slot));
    }
    for (int slot : Desk.NO_SCALARS) {
      Desk.refuses(() -> traps23(), desk -> desk.scalarMul(9, slot, 4));
      Desk.refuses(() -> traps23(), desk -> desk.scalarMul(9, slot, 11));
    }
    // 0 times asks for a point on the curve too.
    Desk.refuses(() -> traps23(), desk -> desk.scalarMul(6, 12, 9));
    Desk.refuses(() -> traps23(), desk -> desk.scalarMul(10, 15, 10));
    for (int slot = 12; slot <= 19; slot++) {
      Desk desk = Desk.sealed23().feed(slot, 2);
      due(desk.scalarMul(6, slot, 4), true);
      desk.dueLimbs(6, 7, 12);
      desk.dueLimbs(slot, 2);
    }
    // ORDER does not matter to it.
    Desk desk = Desk.open23().feed(3, 5).feed(12, 7);
    due(desk.seal(), 0);
    due(desk.scalarMul(6, 12, 4), true);
    dueMultiple(desk, 6, 7);
    // A scalar that is fed still counts as it is by now.
    desk = sealed(2, BigInteger.valueOf(23), ONE, ONE).feed(4, 3, 0, 10, 0).feed(12, 2);
    due(desk.scalarMul(6, 12, 4), true);
    desk.dueLimbs(6, 7, 0, 12, 0);
    desk.dueFed(12, 1);
  }

  private static void negatives() {
    Desk.says("Point dst becomes (X, p - Y) of x (Y 0 stays 0), or the identity");
    for (int k = 0; k < 28; k++) {
      Desk desk = Desk.sealed23().feed(6, multiple(k));
      due(desk.negate(7, 6), true);
      dueMultiple(desk, 7, 28 - k);
      dueMultiple(desk, 6, k);
      due(desk.negate(6, 6), true);
      dueMultiple(desk, 6, 28 - k);
    }
    Desk desk = sealed(35, 34, 0).feed(4, 1, 0).feed(5, 0, 0);
    due(desk.negate(6, 4), true);
    desk.dueLimbs(6, 1, 0);
    due(desk.negate(6, 5), true);
    desk.dueLimbs(6, 0, 0);
    due(desk.isInfinity(6), false);
    due(desk.negate(6, 11), true);
    desk.dueIdentity(6);

    Desk.says("whether the desk is SEALED, both are points, x ON THE CURVE.");
    refusedWhileOpen(one -> one.negate(9, 4));
    refusedWhileOpen(one -> one.negate(10, 11));
    for (int slot : Desk.NO_POINTS) {
      Desk.refuses(() -> traps23(), one -> one.negate(slot, 4));
      Desk.refuses(() -> traps23(), one -> one.negate(9, slot));
      Desk.refuses(() -> traps23(), one -> one.negate(slot, slot));
    }
    for (int dst = 4; dst <= 11; dst++) {
      int into = dst;
      Desk.refuses(() -> traps23(), one -> one.negate(into, 9));
      Desk.refuses(() -> traps23(), one -> one.negate(into, 10));
    }
  }

  public static void main(String[] args) {
    onTheCurve();
    sumsWithTheIdentity();
    allSmallSums();
    noSums();
    greatSums();
    multiples();
    whatPointsTell();
    refusedSums();
    refusedMultiples();
    negatives();
    Desk.end();
  }
}
