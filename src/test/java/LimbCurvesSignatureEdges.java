import java.math.BigInteger;
import java.util.ArrayList;
import java.util.List;
import java.util.function.Supplier;
import java.util.function.ToIntFunction;

/** The edges that the document names of signatures and of scalars: promises 14 and 15. */
public final class LimbCurvesSignatureEdges {
  private static final int MOST = Desk.MOST;
  private static final int NONE = Desk.NONE;
  private static final BigInteger ZERO = BigInteger.ZERO;
  private static final BigInteger ONE = BigInteger.ONE;
  private static final BigInteger TWO = BigInteger.TWO;

  /** X of k times (3, 10) modulo 23 with A = B = 1, k from 1 to 27; 28 times is the identity. */
  private static final int[] X_OF_MULTIPLES = {
    3, 7, 19, 17, 9, 12, 11, 13, 0, 6, 18, 5, 1, 4, 1, 5, 18, 6, 0, 13, 11, 12, 9, 17, 19, 7, 3
  };

  private static void due(Object got, Object want) {
    Desk.due(got, want);
  }

  private static Desk withOrder(int n) {
    Desk desk = Desk.open23().feed(3, n);
    due(desk.seal(), 0);
    return desk;
  }

  /** A signature in slots 12 to 14, with q in slot 5 and g in slot 4; slots 9, 10, 15 are traps. */
  private static Desk signed(Desk desk, int e, int r, int s) {
    return desk.feed(12, e).feed(13, r).feed(14, s).withTraps();
  }

  private static void dueVerdict(int want, Supplier<Desk> maker) {
    Desk.changesNothing(maker, desk -> desk.verify(5, 4, 12, 13, 14), want);
  }

  private static void dueVerdict(int want, int n, int e, int r, int s) {
    dueVerdict(want, () -> signed(withOrder(n), e, r, s));
  }

  private static int inverse(int number, int n) {
    for (int w = 0; w < n; w++) {
      if ((long) number * w % n == 1) {
        return w;
      }
    }
    return -1;
  }

  /** The document's verdict with g = (3, 10) and q = (7, 12), which is twice g. */
  private static int verdict(int n, int e, int r, int s) {
    int w = r == 0 || s == 0 || r >= n || s >= n ? -1 : inverse(s, n);
    if (w < 0) {
      return 0;
    }
    int times = (e * w % n + 2 * (r * w % n)) % 28;
    return times != 0 && X_OF_MULTIPLES[times - 1] % n == r ? 1 : 0;
  }

  private static void smallSignatures() {
    Desk.says("ACCEPTED if r and s are not 0 and below n, there is w with s w = 1 modulo n"
        + " (0 .. n - 1), and R = (e w modulo n) times g, plus (r w modulo n) times q (the sum in"
        + " this order) is not the identity, and its X modulo n is r");
    int accepted = 0;
    for (int n : new int[] {1, 2, 3, 4, 5, 7, 11, 14, 22, 23, 24, 28, 29, 30}) {
      for (int e = 0; e <= n + 1; e++) {
        for (int r = 0; r <= n + 1; r++) {
          Desk desk = withOrder(n).feed(12, e).feed(13, r);
          for (int s = 0; s <= n + 1; s++) {
            int want = verdict(n, e, r, s);
            accepted += want;
            due(desk.feed(14, s).verify(5, 4, 12, 13, 14), want);
          }
        }
      }
    }
    due(accepted > 1000, true);
  }

  private static void edgesOfSignatures() {
    Desk.says("r and s are not 0 and below n");
    // Twice (3, 10) has X = 7, five times X = 9; modulo 11 and 7 a sum may have X = 0.
    dueVerdict(1, 28, 1, 1, 11);
    dueVerdict(0, 28, 1, 0, 11);
    dueVerdict(0, 28, 1, 1, 0);
    dueVerdict(0, 28, 1, 29, 11);
    dueVerdict(0, 28, 1, 1, 39);
    dueVerdict(0, 28, 1, 28, 11);
    dueVerdict(0, 28, 1, 1, 28);
    // w = 1: nine times (3, 10) has X = 0, which r = 0 would meet.
    dueVerdict(0, 28, 9, 0, 1);
    dueVerdict(0, 28, 9, 28, 1);
    // X = 7 is not below n = 7 and is 0 modulo it: r can be neither.
    dueVerdict(0, 7, 2, 0, 1);
    dueVerdict(0, 7, 2, 7, 1);
    dueVerdict(0, 1, 0, 0, 0);
    dueVerdict(0, 1, 1, 1, 1);
    int lastR = 0;
    int lastS = 0;
    for (int n = 2; n < 40; n++) {
      for (int e = 0; e < n; e++) {
        lastR += verdict(n, e, n - 1, 1);
        lastS += verdict(n, e, 1, n - 1);
        due(signed(withOrder(n), e, n - 1, 1).verify(5, 4, 12, 13, 14), verdict(n, e, n - 1, 1));
        due(signed(withOrder(n), e, 1, n - 1).verify(5, 4, 12, 13, 14), verdict(n, e, 1, n - 1));
      }
    }
    due(lastR > 0 && lastS > 0, true);

    Desk.says("there is w with s w = 1 modulo n (0 .. n - 1)");
    for (int s : new int[] {2, 4, 6, 7, 8, 14, 21, 26}) {
      for (int r = 1; r < 28; r++) {
        due(signed(withOrder(28), 1, r, s).verify(5, 4, 12, 13, 14), 0);
      }
    }
    dueVerdict(0, 28, 1, 1, 14);

    Desk.says("R = (e w modulo n) times g, plus (r w modulo n) times q");
    // Modulo 11, s = 3 makes w = 4; r = 9: 36 is 3 and e = 5: 20 is 9, 15 times (3, 10): X = 1.
    dueVerdict(verdict(11, 5, 9, 3), 11, 5, 9, 3);
    dueVerdict(1, 11, 0, 6, 3);
    dueVerdict(1, 11, 11, 6, 3);
    dueVerdict(1, 11, 22, 6, 3);
    dueVerdict(1, 28, 29, 1, 11);
    dueVerdict(1, 28, 1 + 28 * 1000000, 1, 11);

    Desk.says("is not the identity");
    // w = 1: 26 times (3, 10) and once (7, 12).
    dueVerdict(0, 28, 26, 1, 1);
    dueVerdict(0, 28, 22, 3, 1);
    Desk desk = signed(Desk.sealed23(), 1, 1, 11);
    due(desk.verify(11, 11, 12, 13, 14), 0);
    // The identity's X is held as 0: no r may meet that, even as 0 modulo n.
    dueVerdict(0, 28, 28, 0, 1);

    Desk.says("and its X modulo n is r");
    // 2 times (7, 12) is (17, 3), and 17 modulo 11 is 6.
    dueVerdict(1, 11, 0, 6, 3);
    dueVerdict(0, 11, 0, 5, 3);
    dueVerdict(0, 11, 0, 17, 3);
    identitiesInSignatures();
  }

  private static void identitiesInSignatures() {
    Desk.says("plus (r w modulo n) times q (the sum in this order)");
    // With q the identity, e w times g alone is R; with g the identity, r w times q.
    for (int k = 1; k < 28; k++) {
      int x = X_OF_MULTIPLES[k - 1];
      Desk desk = signed(Desk.sealed23(), k, x, 1);
      due(desk.verify(11, 4, 12, 13, 14), x == 0 ? 0 : 1);
      due(desk.verify(11, 11, 12, 13, 14), 0);
      int other = x == 0 ? 0 : X_OF_MULTIPLES[x - 1];
      due(desk.verify(4, 11, 12, 13, 14), x != 0 && other == x ? 1 : 0);
    }
  }

  private static void noVerdicts() {
    Desk.says("NONE: the desk is not SEALED");
    dueVerdict(NONE, () -> signed(Desk.open23(), 1, 1, 11));
    dueVerdict(NONE, () -> {
      Desk desk = signed(Desk.sealed23(), 1, 1, 11);
      due(desk.open(), true);
      return desk;
    });

    Desk.says("q or g no point ON THE CURVE");
    Supplier<Desk> good = () -> signed(Desk.sealed23(), 1, 1, 11);
    dueVerdict(1, good);
    for (int slot : Desk.NO_POINTS) {
      Desk.changesNothing(good, desk -> desk.verify(slot, 4, 12, 13, 14), NONE);
      Desk.changesNothing(good, desk -> desk.verify(5, slot, 12, 13, 14), NONE);
    }
    for (int slot : new int[] {9, 10}) {
      Desk.changesNothing(good, desk -> desk.verify(slot, 4, 12, 13, 14), NONE);
      Desk.changesNothing(good, desk -> desk.verify(5, slot, 12, 13, 14), NONE);
    }

    Desk.says("e, r or s no scalar");
    for (int slot : Desk.NO_SCALARS) {
      Desk.changesNothing(good, desk -> desk.verify(5, 4, slot, 13, 14), NONE);
      Desk.changesNothing(good, desk -> desk.verify(5, 4, 12, slot, 14), NONE);
      Desk.changesNothing(good, desk -> desk.verify(5, 4, 12, 13, slot), NONE);
    }
    for (int slot = 12; slot <= 19; slot++) {
      // One slot for all three makes e w and r w 1, and three times (3, 10) has X = 19.
      due(Desk.sealed23().feed(slot, 19).verify(5, 4, slot, slot, slot), 1);
      due(Desk.sealed23().feed(slot, 9).verify(5, 4, slot, slot, slot), 0);
    }

    Desk.says("ORDER 0");
    dueVerdict(NONE, 0, 1, 1, 11);
    dueVerdict(NONE, 0, 0, 0, 0);
    // What is asked for comes before the verdict: r = 0 would be 0 on a desk as it should be.
    Desk.says("NONE: the desk is not SEALED, q or g no point ON THE CURVE, e, r or s no scalar,"
        + " ORDER 0");
    dueVerdict(NONE, () -> signed(Desk.open23(), 1, 0, 0));
    Desk zero = signed(Desk.sealed23(), 1, 0, 0);
    due(zero.verify(9, 4, 12, 13, 14), NONE);
    due(zero.verify(5, 9, 12, 13, 14), NONE);
    due(zero.verify(5, 4, 4, 13, 14), NONE);
    due(zero.verify(5, 4, 12, 13, 20), NONE);
  }

  private static Desk signed35(int e, int r, int s) {
    return signed(Desk.sealed35(), e, r, s);
  }

  private static void noSumsInSignatures() {
    Desk.says("-2: there is NO SUM in it.");
    // Three times (2, 1), three times (2, 6), and (2, 1) added to (2, 6) have no sum modulo 35.
    dueVerdict(-2, () -> signed35(3, 1, 1));
    dueVerdict(-2, () -> signed35(1, 3, 1));
    dueVerdict(-2, () -> signed35(3, 3, 1));
    dueVerdict(-2, () -> signed35(1, 1, 1));
    dueVerdict(0, () -> signed35(0, 1, 1));
    // Without either of the two there is a sum: 12 is X of twice (2, 6).
    dueVerdict(1, () -> signed35(0, 12, 6));
    // 9 times (5, 4) is the identity, which has a sum with all; 3 times has none.
    Desk desk = signed35(9, 5, 1);
    due(desk.verify(11, 8, 12, 13, 14), 0);
    due(signed35(3, 5, 1).verify(11, 8, 12, 13, 14), -2);
    due(signed35(19, 5, 1).verify(11, 8, 12, 13, 14), 1);
    due(signed35(27, 5, 1).verify(11, 8, 12, 13, 14), -2);
    due(signed35(1, 9, 1).verify(8, 4, 12, 13, 14), 0);
    due(signed35(1, 27, 1).verify(8, 11, 12, 13, 14), -2);

    Desk.says("1 ACCEPTED, 0 not; NONE: the desk is not SEALED, q or g no point ON THE CURVE, e, r"
        + " or s no scalar, ORDER 0; -2: there is NO SUM in it");
    // No R is reckoned for these, so that there is no sum to miss.
    dueVerdict(0, () -> signed35(3, 0, 1));
    dueVerdict(0, () -> signed35(3, 1, 0));
    dueVerdict(0, () -> signed35(3, 31, 1));
    dueVerdict(0, () -> signed35(3, 1, 31));
    dueVerdict(0, () -> signed35(3, 32, 1));
    dueVerdict(0, () -> signed35(3, 1, 32));
    dueVerdict(0, () -> signed35(3, MOST, MOST));
    dueVerdict(0, () -> signed(orderOf35(30), 3, 1, 2));
    dueVerdict(0, () -> signed(orderOf35(30), 3, 1, 15));
    dueVerdict(-2, () -> signed(orderOf35(30), 3, 1, 1));
    // And what is asked for comes first.
    dueVerdict(NONE, () -> signed(orderOf35(0), 3, 1, 1));
    desk = signed35(3, 1, 1);
    due(desk.verify(9, 4, 12, 13, 14), NONE);
    due(desk.verify(5, 4, 12, 13, 3), NONE);
    due(desk.open(), true);
    due(desk.verify(5, 4, 12, 13, 14), NONE);
  }

  private static Desk orderOf35(int n) {
    Desk desk = Desk.sealed35();
    due(desk.open(), true);
    due(desk.feed(3, n).seal(), 0);
    return desk;
  }

  private static void dueReckon(Desk desk, int what, int want) {
    due(desk.reckon(what, 14, 12, 13), true);
    desk.dueLimbs(14, want);
  }

  private static void smallReckonings() {
    Desk.says("Scalar dst becomes the sum (what = 0), the difference (1; modulo ORDER), the product"
        + " (2) of scalars x and y, modulo ORDER, or the number that makes 1 of x modulo ORDER");
    for (int n : new int[] {1, 2, 3, 4, 9, 12, 23, 28}) {
      for (int x = 0; x <= 2 * n + 1; x++) {
        Desk desk = null;
        for (int y = 0; y <= 2 * n + 1; y++) {
          desk = y % 30 == 0 ? new Desk(1).feed(3, n).feed(12, x) : desk;
          desk.feed(13, y);
          dueReckon(desk, 0, (x + y) % n);
          dueReckon(desk, 1, Math.floorMod(x - y, n));
          dueReckon(desk, 2, x * y % n);
        }
        desk = new Desk(1).feed(3, n).feed(12, x).feed(14, 77);
        int inverse = n == 1 ? 0 : inverse(x % n, n);
        due(desk.reckon(3, 14, 12, 13), inverse >= 0);
        desk.dueLimbs(14, inverse >= 0 ? inverse : 77);
      }
    }
  }

  private static void greatReckonings() {
    Desk.says("modulo ORDER");
    for (int limbs = 1; limbs <= 9; limbs++) {
      BigInteger most = ONE.shiftLeft(31 * limbs).subtract(ONE);
      for (int step = 0; step <= 3 * limbs; step++) {
        BigInteger power = ONE.shiftLeft(step / 3 * 31 + step % 3 * 15);
        BigInteger[] orders = {power.subtract(ONE), power, power.add(ONE), most.subtract(power)};
        for (BigInteger n : orders) {
          if (n.signum() > 0 && n.compareTo(most) <= 0) {
            greatReckoningsWith(limbs, n, most);
          }
        }
      }
    }
  }

  private static void greatReckoningsWith(int limbs, BigInteger n, BigInteger most) {
    BigInteger[] edges = {
      ZERO, ONE, n.subtract(ONE), n, n.add(ONE).min(most), n.shiftRight(1), most, most.xor(n)
    };
    for (BigInteger x : edges) {
      Desk desk = new Desk(limbs).feedGreat(3, n).feedGreat(12, x);
      due(desk.reckon(3, 14, 12, 13), x.gcd(n).equals(ONE));
      if (x.gcd(n).equals(ONE)) {
        due(desk.great(14, 0), n.equals(ONE) ? ZERO : x.modInverse(n));
      }
      for (BigInteger y : edges) {
        desk = new Desk(limbs).feedGreat(3, n).feedGreat(12, x).feedGreat(13, y);
        due(desk.reckon(0, 14, 12, 13), true);
        due(desk.great(14, 0), x.add(y).mod(n));
        due(desk.reckon(1, 14, 12, 13), true);
        due(desk.great(14, 0), x.subtract(y).mod(n));
        due(desk.reckon(2, 14, 12, 13), true);
        due(desk.great(14, 0), x.multiply(y).mod(n));
      }
    }
  }

  private static Desk scalars(int n) {
    return Desk.open23().feed(3, n).feed(12, 3).feed(13, 14).feed(15, 99).feed(16);
  }

  private static void refusedReckonings() {
    Desk.says("whether all are scalars (y only for 0 to 2)");
    for (int slot : Desk.NO_SCALARS) {
      for (int what = 0; what <= 3; what++) {
        int operation = what;
        Desk.refuses(() -> scalars(28), desk -> desk.reckon(operation, slot, 12, 12));
        Desk.refuses(() -> scalars(28), desk -> desk.reckon(operation, 15, slot, 12));
        if (what < 3) {
          Desk.refuses(() -> scalars(28), desk -> desk.reckon(operation, 15, 12, slot));
        }
      }
      Desk desk = scalars(28);
      due(desk.reckon(3, 15, 12, slot), true);
      desk.dueLimbs(15, 19);
    }
    for (int slot = 12; slot <= 19; slot++) {
      Desk desk = scalars(28).feed(slot, 5);
      due(desk.reckon(0, slot, slot, slot), true);
      desk.dueLimbs(slot, 10);
      due(desk.reckon(1, slot, slot, slot), true);
      desk.dueLimbs(slot, 0);
    }
    Desk aliased = scalars(28);
    due(aliased.reckon(1, 12, 12, 13), true);
    aliased.dueLimbs(12, 17);
    due(aliased.reckon(1, 13, 12, 13), true);
    aliased.dueLimbs(13, 3);
    due(aliased.reckon(1, 13, 13, 12), true);
    aliased.dueLimbs(13, 14);
    aliased.dueLimbs(12, 17);

    Desk.says("ORDER is not 0");
    for (int what = 0; what <= 3; what++) {
      int operation = what;
      Desk.refuses(() -> scalars(0), desk -> desk.reckon(operation, 15, 12, 12));
      Desk.refuses(() -> scalars(0), desk -> desk.reckon(operation, 16, 17, 18));
      due(scalars(1).reckon(what, 15, 12, 12), true);
    }
    Desk.refuses(() -> new Desk(1), desk -> desk.reckon(0, 12, 13, 14));

    Desk.says("there is such a what");
    for (int what : new int[] {-1, -2, 4, 5, 7, Desk.LEAST, MOST}) {
      Desk.refuses(() -> scalars(28), desk -> desk.reckon(what, 15, 12, 12));
      Desk.refuses(() -> scalars(28), desk -> desk.reckon(what, 16, 12, 12));
    }

    Desk.says("and (3) such a number (modulo 1 it is 0)");
    for (int x : new int[] {0, 2, 4, 7, 14, 21, 26, 28, 42, 56}) {
      Desk.refuses(() -> scalars(28).feed(13, x).feed(16), desk -> desk.reckon(3, 15, 13, 12));
      Desk.refuses(() -> scalars(28).feed(13, x).feed(16), desk -> desk.reckon(3, 16, 13, 12));
      Desk.refuses(() -> scalars(28).feed(13, x).feed(16), desk -> desk.reckon(3, 13, 13, 13));
    }
    for (int x : new int[] {0, 1, 2, 99, MOST}) {
      Desk desk = scalars(1).feed(13, x);
      due(desk.reckon(3, 15, 13, 12), true);
      desk.dueLimbs(15, 0);
    }
    Desk.refuses(() -> scalars(2), desk -> desk.reckon(3, 15, 17, 12));
    Desk desk = scalars(2);
    due(desk.reckon(3, 15, 12, 12), true);
    desk.dueLimbs(15, 1);
  }

  private static void reckoningsInAnyState() {
    Desk.says("whether all are scalars (y only for 0 to 2), ORDER is not 0, there is such a what,"
        + " and (3) such a number (modulo 1 it is 0)");
    // Nothing asks for a desk that is SEALED here, nor for parameters that can be sealed.
    int[] wants = {6, 0, 9, 19};
    for (int what = 0; what <= 3; what++) {
      Desk desk = new Desk(1).feed(3, 28).feed(12, 3);
      due(desk.seal(), 1);
      due(desk.reckon(what, 14, 12, 12), true);
      desk.dueLimbs(14, wants[what]);
      desk = scalars(28);
      due(desk.reckon(what, 14, 12, 12), true);
      desk.dueLimbs(14, wants[what]);
      due(desk.seal(), 0);
      due(desk.reckon(what, 18, 12, 12), true);
      desk.dueLimbs(18, wants[what]);
      due(desk.open(), true);
      due(desk.reckon(what, 12, 12, 12), true);
      desk.dueLimbs(12, wants[what]);
    }
    // ORDER counts as it is by now, while it is fed and after it has been changed.
    Desk desk = new Desk(2).feed(12, 30, 0).feed(3, 28);
    due(desk.reckon(0, 13, 12, 14), true);
    desk.dueLimbs(13, 2, 0);
    desk.dueFed(3, 1);
    due(desk.feedLimb(1), true);
    due(desk.reckon(0, 13, 12, 14), true);
    desk.dueLimbs(13, 30, 0);
    due(desk.feed(3).reckon(0, 13, 12, 14), false);
  }

  private static void signaturesOfManyLimbs() {
    Desk.says("its X modulo n is r");
    // Modulo the prime 2^61 - 1. R is 5 times (1, 2) if q is the identity: s is r and e is 5 r.
    int accepted = 0;
    BigInteger p = ONE.shiftLeft(61).subtract(ONE);
    for (int limbs = 2; limbs <= 9; limbs++) {
      Desk desk = new Desk(limbs).feedGreat(0, p).feedGreat(1, ONE).feedGreat(2, TWO);
      BigInteger n = ONE.shiftLeft(31 * limbs).subtract(ONE);
      due(desk.feedGreat(3, n).seal(), 0);
      desk.feedGreat(4, ONE, TWO).feed(19, 5);
      due(desk.scalarMul(5, 19, 4), true);
      BigInteger r = desk.great(5, 0);
      desk.feedGreat(12, BigInteger.valueOf(5).multiply(r).mod(n)).feedGreat(13, r);
      desk.feedGreat(14, r);
      int want = r.gcd(n).equals(ONE) ? 1 : 0;
      accepted += want;
      due(desk.verify(11, 4, 12, 13, 14), want);
      due(desk.verify(4, 4, 12, 13, 14), 0);
      desk.feedGreat(13, n);
      due(desk.verify(11, 4, 12, 13, 14), 0);
    }
    due(accepted > 0, true);
  }

  /** Calls that can't be done on any desk, whatever it holds. */
  private static List<ToIntFunction<Desk>> badCalls() {
    List<ToIntFunction<Desk>> calls = new ArrayList<>();
    for (int bad : Desk.NO_SLOTS) {
      calls.add(desk -> desk.select(bad) ? 1 : 0);
      calls.add(desk -> desk.feedLimb(-1 - Math.abs(bad % 99)) ? 1 : 0);
      calls.add(desk -> desk.limb(bad, 0));
      calls.add(desk -> desk.limb(12, bad));
      calls.add(desk -> desk.onCurve(bad) ? 1 : 0);
      calls.add(desk -> desk.isInfinity(bad) ? 1 : 0);
      calls.add(desk -> desk.addPts(bad, 4, 5) ? 1 : 0);
      calls.add(desk -> desk.addPts(10, bad, 5) ? 1 : 0);
      calls.add(desk -> desk.addPts(10, 4, bad) ? 1 : 0);
      calls.add(desk -> desk.dbl(bad, 4) ? 1 : 0);
      calls.add(desk -> desk.dbl(10, bad) ? 1 : 0);
      calls.add(desk -> desk.scalarMul(bad, 15, 4) ? 1 : 0);
      calls.add(desk -> desk.scalarMul(10, bad, 4) ? 1 : 0);
      calls.add(desk -> desk.scalarMul(10, 15, bad) ? 1 : 0);
      calls.add(desk -> desk.negate(bad, 4) ? 1 : 0);
      calls.add(desk -> desk.negate(10, bad) ? 1 : 0);
      calls.add(desk -> desk.isSame(bad, 4) ? 1 : 0);
      calls.add(desk -> desk.isSame(4, bad) ? 1 : 0);
      calls.add(desk -> desk.verify(bad, 4, 12, 13, 14));
      calls.add(desk -> desk.verify(5, bad, 12, 13, 14));
      calls.add(desk -> desk.verify(5, 4, bad, 13, 14));
      calls.add(desk -> desk.verify(5, 4, 12, bad, 14));
      calls.add(desk -> desk.verify(5, 4, 12, 13, bad));
      calls.add(desk -> desk.reckon(bad, 15, 12, 13) ? 1 : 0);
      calls.add(desk -> desk.reckon(0, bad, 12, 13) ? 1 : 0);
      calls.add(desk -> desk.reckon(1, 15, bad, 13) ? 1 : 0);
      calls.add(desk -> desk.reckon(2, 15, 12, bad) ? 1 : 0);
      calls.add(desk -> desk.state(bad));
    }
    return calls;
  }

  private static void callsThatChangeNothing() {
    Desk.says("Numbers below 0 or false tell what is not as said; that changes nothing.");
    List<Supplier<Desk>> makers = new ArrayList<>();
    makers.add(() -> new Desk(1));
    makers.add(() -> new Desk(2).feed(0, 23, 0).feed(4, 3, 0, 10, 0).feed(3, 28));
    makers.add(() -> signed(Desk.open23(), 1, 1, 11));
    makers.add(() -> signed(Desk.sealed23(), 1, 1, 11));
    makers.add(() -> signed(Desk.sealed23(), 1, 1, 11).feed(15));
    makers.add(() -> signed35(3, 1, 1));
    for (Supplier<Desk> maker : makers) {
      for (ToIntFunction<Desk> call : badCalls()) {
        // Those that answer a number tell NONE, the others false.
        int got = call.applyAsInt(maker.get());
        due(got == 0 || got == NONE, true);
        Desk.changesNothing(maker, call, got);
      }
    }
    // After a call of no effect the limbs go on where they were, and the curve is as before.
    for (ToIntFunction<Desk> call : badCalls()) {
      Desk desk = signed(Desk.sealed23(), 1, 1, 11);
      call.applyAsInt(desk);
      due(desk.feedLimb(6), true);
      desk.dueLimbs(10, 20, 6);
      due(desk.verify(5, 4, 12, 13, 14), 1);
      due(desk.addPts(6, 4, 5), true);
      desk.dueLimbs(6, 19, 5);
    }
  }

  public static void main(String[] args) {
    smallSignatures();
    edgesOfSignatures();
    noVerdicts();
    noSumsInSignatures();
    smallReckonings();
    greatReckonings();
    refusedReckonings();
    reckoningsInAnyState();
    signaturesOfManyLimbs();
    callsThatChangeNothing();
    Desk.end();
  }
}
