import java.math.BigInteger;
import java.util.ArrayList;
import java.util.Arrays;
import java.util.List;
import java.util.Random;

/**
 * Runs of calls that are drawn by fixed seeds, each answered by LimbCurves and by a plain model of
 * the document over BigInteger, which divides wherever the document does.
 */
public final class LimbCurvesModelRuns {
  // What an object answers after so many calls is free.
  private static final int CALLS_OF_A_RUN = 512;
  private static final BigInteger ZERO = BigInteger.ZERO;
  private static final BigInteger ONE = BigInteger.ONE;
  private static final BigInteger TWO = BigInteger.TWO;
  private static final BigInteger THREE = BigInteger.valueOf(3);

  private static int wrong = 0;
  private static long compared = 0;
  private static final int[] verdicts = new int[4];

  /** A point of the model: a pair, or IDENTITY. */
  private record Pair(BigInteger x, BigInteger y) {}

  private static final Pair IDENTITY = new Pair(ZERO, ZERO);

  private static final class NoSum extends Exception {
    private static final long serialVersionUID = 1L;
  }

  private static final class Model {
    final int limbs;
    final int[][] rows = new int[20][];
    final boolean[] isPair = new boolean[20];
    boolean sealed = false;
    int fed = -1;
    int count = 0;

    Model(int limbs) {
      this.limbs = Math.max(1, Math.min(9, limbs));
      for (int k = 0; k < 20; k++) {
        rows[k] = new int[isPoint(k) ? 2 * this.limbs : this.limbs];
      }
    }

    static boolean isPoint(int k) {
      return k >= 4 && k <= 11;
    }

    static boolean isScalar(int k) {
      return k >= 12 && k <= 19;
    }

    BigInteger part(int k, int from) {
      BigInteger sum = ZERO;
      for (int i = limbs - 1; i >= 0; i--) {
        sum = sum.shiftLeft(31).add(BigInteger.valueOf(rows[k][from + i]));
      }
      return sum;
    }

    BigInteger number(int k) {
      return part(k, 0);
    }

    Pair point(int k) {
      return isPair[k] ? new Pair(part(k, 0), part(k, limbs)) : IDENTITY;
    }

    void writePart(int k, int from, BigInteger value) {
      BigInteger left = value;
      for (int i = 0; i < limbs; i++) {
        rows[k][from + i] = left.intValue() & Integer.MAX_VALUE;
        left = left.shiftRight(31);
      }
    }

    void stopFeeding(int k) {
      if (fed == k) {
        fed = -1;
        count = 0;
      }
    }

    void write(int k, Pair value) {
      writePart(k, 0, value.x);
      writePart(k, limbs, value.y);
      isPair[k] = value != IDENTITY;
      stopFeeding(k);
    }

    boolean lies(Pair point) {
      BigInteger p = number(0);
      if (point == IDENTITY) {
        return true;
      }
      if (point.x.compareTo(p) >= 0 || point.y.compareTo(p) >= 0) {
        return false;
      }
      BigInteger cube = point.x.pow(3).add(number(1).multiply(point.x)).add(number(2));
      return point.y.pow(2).subtract(cube).mod(p).signum() == 0;
    }

    static BigInteger inverse(BigInteger number, BigInteger modulus) throws NoSum {
      if (!number.gcd(modulus).equals(ONE)) {
        throw new NoSum();
      }
      return modulus.equals(ONE) ? ZERO : number.modInverse(modulus);
    }

    Pair sum(Pair one, Pair other) throws NoSum {
      if (one == IDENTITY) {
        return other;
      }
      if (other == IDENTITY) {
        return one;
      }
      BigInteger p = number(0);
      BigInteger slope;
      if (!one.x.equals(other.x)) {
        slope = other.y.subtract(one.y).multiply(inverse(other.x.subtract(one.x).mod(p), p));
      } else if (one.y.add(other.y).mod(p).signum() == 0) {
        return IDENTITY;
      } else {
        BigInteger top = one.x.pow(2).multiply(THREE).add(number(1));
        slope = top.multiply(inverse(one.y.add(other.y).mod(p), p));
      }
      BigInteger x = slope.pow(2).subtract(one.x).subtract(other.x).mod(p);
      return new Pair(x, slope.multiply(one.x.subtract(x)).subtract(one.y).mod(p));
    }

    Pair times(BigInteger k, Pair point) throws NoSum {
      Pair what = IDENTITY;
      for (int bit = k.bitLength() - 1; bit >= 0; bit--) {
        what = sum(what, what);
        if (k.testBit(bit)) {
          what = sum(what, point);
        }
      }
      return what;
    }

    int select(int k) {
      if (k < 0 || k > 19 || (sealed && k < 4)) {
        return 0;
      }
      Arrays.fill(rows[k], 0);
      isPair[k] = false;
      fed = k;
      count = 0;
      return 1;
    }

    int feedLimb(int word) {
      if (fed < 0 || word < 0) {
        return 0;
      }
      rows[fed][count++] = word;
      isPair[fed] = isPoint(fed);
      if (count == rows[fed].length) {
        stopFeeding(fed);
      }
      return 1;
    }

    int seal() {
      BigInteger p = number(0);
      BigInteger a = number(1);
      BigInteger b = number(2);
      if (sealed) {
        return 4;
      }
      if (!p.testBit(0) || p.compareTo(THREE) <= 0) {
        return 1;
      }
      if (a.compareTo(p) >= 0 || b.compareTo(p) >= 0) {
        return 2;
      }
      BigInteger four = a.pow(3).multiply(BigInteger.valueOf(4));
      if (four.add(b.pow(2).multiply(BigInteger.valueOf(27))).mod(p).signum() == 0) {
        return 3;
      }
      sealed = true;
      if (fed >= 0 && fed < 4) {
        stopFeeding(fed);
      }
      return 0;
    }

    int open() {
      int was = sealed ? 1 : 0;
      sealed = false;
      return was;
    }

    int limb(int k, int i) {
      return k < 0 || k > 19 || i < 0 || i >= rows[k].length ? -1 : rows[k][i];
    }

    int onCurve(int k) {
      return sealed && isPoint(k) && lies(point(k)) ? 1 : 0;
    }

    int isInfinity(int k) {
      return isPoint(k) && !isPair[k] ? 1 : 0;
    }

    int addPts(int dst, int x, int y) {
      if (!isPoint(dst) || onCurve(x) == 0 || onCurve(y) == 0) {
        return 0;
      }
      try {
        write(dst, sum(point(x), point(y)));
        return 1;
      } catch (NoSum none) {
        return 0;
      }
    }

    int scalarMul(int dst, int k, int x) {
      if (!isPoint(dst) || !isScalar(k) || onCurve(x) == 0) {
        return 0;
      }
      try {
        write(dst, times(number(k), point(x)));
        return 1;
      } catch (NoSum none) {
        return 0;
      }
    }

    int negate(int dst, int x) {
      if (!isPoint(dst) || onCurve(x) == 0) {
        return 0;
      }
      Pair from = point(x);
      boolean stays = from == IDENTITY || from.y.signum() == 0;
      write(dst, stays ? from : new Pair(from.x, number(0).subtract(from.y)));
      return 1;
    }

    int isSame(int x, int y) {
      if (!isPoint(x) || !isPoint(y) || isPair[x] != isPair[y]) {
        return 0;
      }
      return Arrays.equals(rows[x], rows[y]) ? 1 : 0;
    }

    int verify(int q, int g, int e, int r, int s) {
      BigInteger n = number(3);
      if (onCurve(q) == 0 || onCurve(g) == 0 || !isScalar(e) || !isScalar(r) || !isScalar(s)
          || n.signum() == 0) {
        return -1;
      }
      BigInteger first = number(r);
      BigInteger second = number(s);
      if (first.signum() == 0 || second.signum() == 0 || first.compareTo(n) >= 0
          || second.compareTo(n) >= 0 || !second.gcd(n).equals(ONE)) {
        return 0;
      }
      try {
        BigInteger w = inverse(second, n);
        Pair one = times(number(e).multiply(w).mod(n), point(g));
        Pair sum = sum(one, times(first.multiply(w).mod(n), point(q)));
        return sum != IDENTITY && sum.x.mod(n).equals(first) ? 1 : 0;
      } catch (NoSum none) {
        return -2;
      }
    }

    int reckon(int what, int dst, int x, int y) {
      BigInteger n = number(3);
      if (what < 0 || what > 3 || !isScalar(dst) || !isScalar(x) || (what < 3 && !isScalar(y))
          || n.signum() == 0) {
        return 0;
      }
      BigInteger one = number(x);
      BigInteger value;
      if (what == 3) {
        try {
          value = inverse(one.mod(n), n);
        } catch (NoSum none) {
          return 0;
        }
      } else {
        BigInteger other = number(y);
        value = what == 0 ? one.add(other) : what == 1 ? one.subtract(other) : one.multiply(other);
      }
      writePart(dst, 0, value.mod(n));
      stopFeeding(dst);
      return 1;
    }

    int state(int what) {
      int[] answers = {limbs, sealed ? 1 : 0, fed, count};
      return what < 0 || what > 3 ? -1 : answers[what];
    }
  }

  /** One run: every call goes to both, and the answers are compared. */
  private static final class Run {
    final int seed;
    final Random random;
    final Model model;
    final LimbCurves desk;
    BigInteger p;
    BigInteger factor;
    final List<Pair> known = new ArrayList<>();
    int calls = 0;

    Run(int seed) {
      this.seed = seed;
      random = new Random(seed);
      int[] sizes = {1, 1, 1, 2, 2, 3, 5, 9, 9, 0, 14, -7};
      int limbs = sizes[random.nextInt(sizes.length)];
      model = new Model(limbs);
      desk = new LimbCurves(limbs);
    }

    void due(String call, int got, int want) {
      calls++;
      if (calls > CALLS_OF_A_RUN) {
        return;
      }
      compared++;
      if (got != want) {
        wrong++;
        System.out.println("seed " + seed + ": " + call + " answered " + got + ", due is " + want);
      }
    }

    void due(String call, boolean got, int want) {
      due(call, got ? 1 : 0, want);
    }

    void select(int k) {
      due("select(" + k + ")", desk.select(k), model.select(k));
    }

    void feedLimb(int word) {
      due("feedLimb(" + word + ")", desk.feedLimb(word), model.feedLimb(word));
    }

    void feed(int k, BigInteger... values) {
      select(k);
      for (BigInteger value : values) {
        BigInteger left = value;
        for (int i = 0; i < model.limbs; i++) {
          feedLimb(left.intValue() & Integer.MAX_VALUE);
          left = left.shiftRight(31);
        }
      }
    }

    BigInteger below(BigInteger bound) {
      return new BigInteger(bound.bitLength() + 8, random).mod(bound);
    }

    int bits() {
      return 31 * model.limbs;
    }

    BigInteger oddModulus() {
      int all = bits();
      int most = random.nextInt(3) == 0 ? all : 5 + random.nextInt(all - 4);
      factor = null;
      if (model.limbs <= 2 && random.nextBoolean()) {
        return BigInteger.valueOf(5 + 2 * random.nextInt(60));
      }
      if (most >= 8 && random.nextBoolean()) {
        int part = 3 + random.nextInt(Math.min(most / 2 - 2, random.nextBoolean() ? 6 : 200));
        factor = BigInteger.probablePrime(part, random);
        return factor.multiply(BigInteger.probablePrime(most - part, random));
      }
      return BigInteger.probablePrime(most, random).max(BigInteger.valueOf(5)).setBit(0);
    }

    void feedCurve() {
      p = oddModulus();
      known.clear();
      BigInteger a = random.nextInt(4) == 0 ? ZERO : below(p);
      BigInteger x = below(p);
      BigInteger y = random.nextInt(6) == 0 ? ZERO : below(p);
      BigInteger b = y.pow(2).subtract(x.pow(3)).subtract(a.multiply(x)).mod(p);
      feed(0, p);
      feed(1, a);
      feed(2, b);
      feedOrder();
      due("seal()", desk.seal(), model.seal());
      rememberPoints(x, y);
      for (int k = 4; k < 8; k++) {
        feedKnown(k);
      }
      for (int k = 12; k < 15; k++) {
        feedScalar(k);
      }
    }

    void feedOrder() {
      BigInteger[] small = {ZERO, ONE, TWO, BigInteger.valueOf(6), BigInteger.valueOf(7)};
      int draw = random.nextInt(8);
      BigInteger most = ONE.shiftLeft(bits());
      if (draw == 0) {
        feed(3, small[random.nextInt(small.length)]);
      } else if (draw < 3) {
        feed(3, BigInteger.valueOf(3 + random.nextInt(30)));
      } else if (draw < 6) {
        feed(3, below(p).or(ONE));
      } else {
        feed(3, below(most));
      }
    }

    void rememberPoints(BigInteger x, BigInteger y) {
      known.add(new Pair(x, y));
      known.add(new Pair(x, p.subtract(y).mod(p)));
      if (factor != null && !p.equals(factor.pow(2))) {
        BigInteger other = p.divide(factor);
        if (factor.gcd(other).equals(ONE)) {
          BigInteger unit = other.multiply(other.modInverse(factor));
          known.add(new Pair(x, y.subtract(y.multiply(unit).multiply(TWO)).mod(p)));
        }
      }
      if (p.bitLength() < 8) {
        int all = p.intValue();
        for (int i = 0; i < all; i++) {
          for (int j = 0; j < all; j++) {
            Pair pair = new Pair(BigInteger.valueOf(i), BigInteger.valueOf(j));
            if (model.lies(pair)) {
              known.add(pair);
            }
          }
        }
      }
    }

    void feedKnown(int k) {
      Pair pair = known.get(random.nextInt(known.size()));
      BigInteger room = ONE.shiftLeft(bits());
      BigInteger x = pair.x;
      BigInteger y = pair.y;
      int draw = random.nextInt(20);
      if (draw == 0 && x.add(p).compareTo(room) < 0) {
        x = x.add(p);
      } else if (draw == 1 && y.add(p).compareTo(room) < 0) {
        y = y.add(p);
      } else if (draw == 2) {
        y = y.xor(ONE);
      }
      feed(k, x, y);
    }

    void feedScalar(int k) {
      int draw = random.nextInt(5);
      if (draw == 0) {
        feed(k, BigInteger.valueOf(random.nextInt(12)));
      } else if (draw < 3) {
        feed(k, below(model.number(3).max(TWO)));
      } else {
        feed(k, below(ONE.shiftLeft(1 + random.nextInt(bits()))));
      }
    }

    /** Feeds e, r and s that are accepted: u and v are drawn, s and e follow from r. */
    void craftSignature(int q, int g) {
      BigInteger n = model.number(3);
      if (n.compareTo(TWO) <= 0 || model.onCurve(q) == 0 || model.onCurve(g) == 0) {
        return;
      }
      try {
        BigInteger u = below(n);
        BigInteger v = below(n);
        Pair sum = model.sum(model.times(u, model.point(g)), model.times(v, model.point(q)));
        BigInteger r = sum.x.mod(n);
        BigInteger s = r.multiply(Model.inverse(v, n)).mod(n);
        feed(12, u.multiply(s).mod(n));
        feed(13, r);
        feed(14, s);
        verify(q, g, 12, 13, 14);
        verify(g, q, 12, 13, 14);
        verify(q, g, 13, 13, 14);
      } catch (NoSum none) {
        feedScalar(12);
      }
    }

    void verify(int q, int g, int e, int r, int s) {
      int want = model.verify(q, g, e, r, s);
      verdicts[want + 2]++;
      String call = "verify(" + q + ", " + g + ", " + e + ", " + r + ", " + s + ")";
      due(call, desk.verify(q, g, e, r, s), want);
    }

    int anySlot() {
      int[] odd = {-1, 20, 21, Integer.MAX_VALUE, Integer.MIN_VALUE};
      return random.nextInt(12) == 0 ? odd[random.nextInt(odd.length)] : random.nextInt(20);
    }

    int pointSlot() {
      return random.nextInt(25) == 0 ? anySlot() : 4 + random.nextInt(8);
    }

    int scalarSlot() {
      return random.nextInt(25) == 0 ? anySlot() : 12 + random.nextInt(8);
    }

    void lookAt(int k) {
      int i = random.nextInt(2 * model.limbs + 2) - 1;
      due("limb(" + k + ", " + i + ")", desk.limb(k, i), model.limb(k, i));
      i = i % model.limbs;
      due("limb(" + k + ", " + i + ")", desk.limb(k, i), model.limb(k, i));
      if (random.nextInt(4) == 0) {
        due("isInfinity(" + k + ")", desk.isInfinity(k), model.isInfinity(k));
      }
    }

    void lookAtState() {
      int what = random.nextInt(10) == 0 ? random.nextInt() : random.nextInt(4);
      due("state(" + what + ")", desk.state(what), model.state(what));
    }

    void drawCall() {
      int x = pointSlot();
      int y = pointSlot();
      int dst = pointSlot();
      int k = scalarSlot();
      switch (random.nextInt(16)) {
        case 0 -> select(anySlot());
        case 1, 2 -> feedLimb(random.nextInt(3) == 0 ? random.nextInt() : random.nextInt(9));
        case 3 -> {
          due("limb", desk.limb(x, y), model.limb(x, y));
          due("limb", desk.limb(k, 0), model.limb(k, 0));
        }
        case 4 -> due("onCurve(" + x + ")", desk.onCurve(x), model.onCurve(x));
        case 5, 6 -> {
          String call = "addPts(" + dst + ", " + x + ", " + y + ")";
          due(call, desk.addPts(dst, x, y), model.addPts(dst, x, y));
        }
        case 7 -> {
          due("dbl(" + dst + ", " + x + ")", desk.dbl(dst, x), model.addPts(dst, x, x));
        }
        case 8 -> {
          String call = "scalarMul(" + dst + ", " + k + ", " + x + ")";
          due(call, desk.scalarMul(dst, k, x), model.scalarMul(dst, k, x));
        }
        case 9 -> due("negate(" + dst + ", " + x + ")", desk.negate(dst, x), model.negate(dst, x));
        case 10 -> due("isSame(" + x + ", " + y + ")", desk.isSame(x, y), model.isSame(x, y));
        case 11, 12 -> drawReckon(k);
        case 13 -> drawVerify(x, y, k);
        case 14 -> {
          if (random.nextInt(4) == 0) {
            due("open()", desk.open(), model.open());
          } else {
            due("seal()", desk.seal(), model.seal());
          }
        }
        default -> {
          if (random.nextBoolean()) {
            feedKnown(4 + random.nextInt(8));
          } else {
            feedScalar(12 + random.nextInt(8));
          }
        }
      }
      lookAtState();
      lookAt(random.nextBoolean() ? dst : k);
    }

    void drawReckon(int k) {
      int what = random.nextInt(20) == 0 ? random.nextInt() : random.nextInt(6) - 1;
      int x = scalarSlot();
      int y = scalarSlot();
      String call = "reckon(" + what + ", " + k + ", " + x + ", " + y + ")";
      due(call, desk.reckon(what, k, x, y), model.reckon(what, k, x, y));
    }

    void drawVerify(int x, int y, int k) {
      if (random.nextBoolean()) {
        craftSignature(x, y);
      } else {
        verify(x, y, k, scalarSlot(), scalarSlot());
      }
    }

    void play() {
      feedCurve();
      while (calls < CALLS_OF_A_RUN) {
        drawCall();
      }
    }
  }

  public static void main(String[] args) {
    int runs = args.length > 0 ? Integer.parseInt(args[0]) : 1500;
    for (int seed = 1; seed <= runs && wrong < 50; seed++) {
      new Run(seed).play();
    }
    for (int i = 0; i < verdicts.length; i++) {
      System.out.println("verify was due to answer " + (i - 2) + ": " + verdicts[i] + " times");
      if (verdicts[i] == 0) {
        wrong++;
        System.out.println("the runs miss this answer");
      }
    }
    System.out.println(compared + " answers compared, " + wrong + " not as due");
    if (wrong != 0) {
      System.exit(1);
    }
  }
}
