import java.util.Arrays;

/** A desk for curves y y = x x x + A x + B modulo p; README.md says how it is used. */
public final class LimbCurves {
  public static final int NONE = -1;

  private static final int MOST_LIMBS = 9;
  private static final int LIMB_BITS = 31;
  private static final long LIMB_MASK = 0x7FFFFFFFL;

  private static final int P = 0;
  private static final int A = 1;
  private static final int B = 2;
  private static final int ORDER = 3;
  private static final int FIRST_POINT = 4;
  private static final int FIRST_SCALAR = 12;
  private static final int SLOTS = 20;

  private static final int SEALED_NOW = 0;
  private static final int BAD_MODULUS = 1;
  private static final int BAD_COEFFICIENT = 2;
  private static final int SINGULAR = 3;
  private static final int SEALED_ALREADY = 4;

  private static final int PLUS = 0;
  private static final int MINUS = 1;
  private static final int TIMES = 2;
  private static final int INVERSE = 3;

  private static final int REJECTED = 0;
  private static final int ACCEPTED = 1;
  private static final int NO_SUM = -2;

  private final int limbs;
  private final int[][] parameters;
  private final Point[] points;
  private final int[][] scalars;
  private final Residues order;
  private final Curve curve;
  private final RunningSum running;

  // What a call reckons with before anything is written into a slot.
  private final int[] left;
  private final int[] right;
  private final Point result;

  private boolean sealed;
  private int fedSlot;
  private int fedLimbs;

  public LimbCurves(int limbs) {
    this.limbs = Math.max(1, Math.min(MOST_LIMBS, limbs));
    parameters = new int[FIRST_POINT][this.limbs];
    points = new Point[FIRST_SCALAR - FIRST_POINT];
    for (int i = 0; i < points.length; i++) {
      points[i] = new Point(this.limbs);
    }
    scalars = new int[SLOTS - FIRST_SCALAR][this.limbs];
    order = new Residues(this.limbs);
    Residues field = new Residues(this.limbs);
    curve = new Curve(parameters, field);
    running = new RunningSum(this.limbs, field, parameters[A]);
    left = new int[this.limbs];
    right = new int[this.limbs];
    result = new Point(this.limbs);
    sealed = false;
    fedSlot = NONE;
    fedLimbs = 0;
  }

  public boolean select(int slot) {
    if (!isSlot(slot) || (sealed && isParameter(slot))) {
      return false;
    }
    clearSlot(slot);
    fedSlot = slot;
    fedLimbs = 0;
    return true;
  }

  public boolean feedLimb(int word) {
    if (fedSlot == NONE || word < 0) {
      return false;
    }
    rowOf(fedSlot, fedLimbs)[placeInRow(fedLimbs)] = word;
    if (isPoint(fedSlot)) {
      pointIn(fedSlot).identity = false;
    }
    fedLimbs++;
    if (fedLimbs >= limbsOf(fedSlot)) {
      endFeeding(fedSlot);
    }
    return true;
  }

  public int seal() {
    if (sealed) {
      return SEALED_ALREADY;
    }
    int fault = curve.takeParameters();
    if (fault != SEALED_NOW) {
      return fault;
    }
    sealed = true;
    if (isParameter(fedSlot)) {
      endFeeding(fedSlot);
    }
    return SEALED_NOW;
  }

  public boolean open() {
    boolean wasSealed = sealed;
    sealed = false;
    return wasSealed;
  }

  public int limb(int k, int i) {
    if (!isSlot(k) || i < 0 || i >= limbsOf(k)) {
      return NONE;
    }
    return rowOf(k, i)[placeInRow(i)];
  }

  public boolean onCurve(int pt) {
    return sealed && isPoint(pt) && curve.holds(pointIn(pt));
  }

  public boolean isInfinity(int pt) {
    return isPoint(pt) && pointIn(pt).identity;
  }

  public boolean addPts(int dst, int x, int y) {
    if (!isPoint(dst) || !onCurve(x) || !onCurve(y)) {
      return false;
    }
    running.startAtIdentity();
    running.addPoint(pointIn(x));
    running.addPoint(pointIn(y));
    return writeRunningSum(dst);
  }

  public boolean dbl(int dst, int x) {
    return addPts(dst, x, x);
  }

  public boolean scalarMul(int dst, int k, int x) {
    if (!isPoint(dst) || !isScalar(k) || !onCurve(x)) {
      return false;
    }
    running.takeTimes(scalarIn(k), pointIn(x));
    return writeRunningSum(dst);
  }

  public boolean negate(int dst, int x) {
    if (!isPoint(dst) || !onCurve(x)) {
      return false;
    }
    pointIn(dst).copyFrom(pointIn(x));
    curve.mirror(pointIn(dst));
    endFeeding(dst);
    return true;
  }

  public boolean isSame(int x, int y) {
    return isPoint(x) && isPoint(y) && pointIn(x).sameAs(pointIn(y));
  }

  public int verify(int q, int g, int e, int r, int s) {
    if (!onCurve(q) || !onCurve(g) || !isScalar(e) || !isScalar(r) || !isScalar(s)) {
      return NONE;
    }
    if (!order.takeModulus(parameters[ORDER])) {
      return NONE;
    }
    int[] signature = scalarIn(r);
    if (!isSignaturePart(signature) || !isSignaturePart(scalarIn(s))) {
      return REJECTED;
    }
    if (!order.invert(right, scalarIn(s))) {
      return REJECTED;
    }
    order.reduce(left, scalarIn(e));
    order.multiply(left, left, right);
    order.multiply(right, signature, right);
    running.takeTimes(right, pointIn(q));
    if (!running.writeTo(result)) {
      return NO_SUM;
    }
    running.takeTimes(left, pointIn(g));
    running.addPoint(result);
    if (!running.writeTo(result)) {
      return NO_SUM;
    }
    order.reduce(left, result.x);
    return !result.identity && Numbers.compare(left, signature) == 0 ? ACCEPTED : REJECTED;
  }

  public boolean reckon(int what, int dst, int x, int y) {
    if (what < PLUS || what > INVERSE || !isScalar(dst) || !isScalar(x)) {
      return false;
    }
    if (what != INVERSE && !isScalar(y)) {
      return false;
    }
    if (!order.takeModulus(parameters[ORDER])) {
      return false;
    }
    order.reduce(left, scalarIn(x));
    if (what == INVERSE) {
      if (!order.invert(left, left)) {
        return false;
      }
    } else {
      order.reduce(right, scalarIn(y));
      combineModuloOrder(what);
    }
    Numbers.copy(scalarIn(dst), left);
    endFeeding(dst);
    return true;
  }

  public int state(int what) {
    switch (what) {
      case 0:
        return limbs;
      case 1:
        return sealed ? 1 : 0;
      case 2:
        return fedSlot;
      case 3:
        return fedLimbs;
      default:
        return NONE;
    }
  }

  private static boolean isSlot(int slot) {
    return slot >= 0 && slot < SLOTS;
  }

  private static boolean isParameter(int slot) {
    return slot >= 0 && slot < FIRST_POINT;
  }

  private static boolean isPoint(int slot) {
    return slot >= FIRST_POINT && slot < FIRST_SCALAR;
  }

  private static boolean isScalar(int slot) {
    return slot >= FIRST_SCALAR && slot < SLOTS;
  }

  private Point pointIn(int slot) {
    return points[slot - FIRST_POINT];
  }

  private int[] scalarIn(int slot) {
    return scalars[slot - FIRST_SCALAR];
  }

  private int limbsOf(int slot) {
    return isPoint(slot) ? 2 * limbs : limbs;
  }

  /** The row that limb i of a slot stands in: a point has one row for X and one for Y. */
  private int[] rowOf(int slot, int i) {
    if (isParameter(slot)) {
      return parameters[slot];
    }
    if (isScalar(slot)) {
      return scalarIn(slot);
    }
    return i < limbs ? pointIn(slot).x : pointIn(slot).y;
  }

  private int placeInRow(int i) {
    return i < limbs ? i : i - limbs;
  }

  private void clearSlot(int slot) {
    if (isPoint(slot)) {
      pointIn(slot).becomeIdentity();
    } else {
      Numbers.set(rowOf(slot, 0), 0);
    }
  }

  private void endFeeding(int slot) {
    if (fedSlot == slot) {
      fedSlot = NONE;
      fedLimbs = 0;
    }
  }

  private boolean writeRunningSum(int dst) {
    if (!running.writeTo(pointIn(dst))) {
      return false;
    }
    endFeeding(dst);
    return true;
  }

  private boolean isSignaturePart(int[] number) {
    return !Numbers.isZero(number) && Numbers.compare(number, parameters[ORDER]) < 0;
  }

  private void combineModuloOrder(int what) {
    if (what == PLUS) {
      order.add(left, left, right);
    } else if (what == MINUS) {
      order.subtract(left, left, right);
    } else if (what == TIMES) {
      order.multiply(left, left, right);
    }
  }

  /** Numbers are rows of limbs, the lowest first; two rows that meet are of one length. */
  private static final class Numbers {
    static void set(int[] row, int value) {
      Arrays.fill(row, 0);
      row[0] = value;
    }

    static void copy(int[] to, int[] from) {
      System.arraycopy(from, 0, to, 0, to.length);
    }

    static boolean isZero(int[] row) {
      return sizeOf(row) == 0;
    }

    /** How many limbs there are up to the highest one that is not 0. */
    static int sizeOf(int[] row) {
      int size = row.length;
      while (size > 0 && row[size - 1] == 0) {
        size--;
      }
      return size;
    }

    static int bitsOf(int[] row) {
      int size = sizeOf(row);
      return size == 0 ? 0 : size * LIMB_BITS + 1 - Integer.numberOfLeadingZeros(row[size - 1]);
    }

    static int compare(int[] one, int[] other) {
      for (int i = one.length - 1; i >= 0; i--) {
        if (one[i] != other[i]) {
          return one[i] < other[i] ? -1 : 1;
        }
      }
      return 0;
    }

    /** Writes one plus other (sign 1) or less other (sign -1); answers what goes past the row. */
    static long combine(int[] out, int[] one, int[] other, int sign) {
      long carry = 0;
      for (int i = 0; i < out.length; i++) {
        carry += one[i] + (long) sign * other[i];
        out[i] = (int) (carry & LIMB_MASK);
        carry >>= LIMB_BITS;
      }
      return carry;
    }

    /** Limb i of the row times 2 to the gap. */
    static int shiftedLimb(int[] row, int i, int gap) {
      int at = i - gap / LIMB_BITS;
      long high = at >= 0 ? row[at] : 0;
      long low = at >= 1 ? row[at - 1] : 0;
      return (int) (((high << LIMB_BITS | low) >>> (LIMB_BITS - gap % LIMB_BITS)) & LIMB_MASK);
    }

    static boolean isBelowShifted(int[] one, int[] other, int gap) {
      for (int i = one.length - 1; i >= 0; i--) {
        int shifted = shiftedLimb(other, i, gap);
        if (one[i] != shifted) {
          return one[i] < shifted;
        }
      }
      return false;
    }

    /** The greatest gap with lower times 2 to the gap not above upper; below 0 if there is none. */
    static int gapBetween(int[] upper, int[] lower) {
      int gap = bitsOf(upper) - bitsOf(lower);
      return gap >= 0 && isBelowShifted(upper, lower, gap) ? gap - 1 : gap;
    }

    /** Adds (sign 1) or takes away (sign -1) the other number times 2 to the gap. */
    static void addShifted(int[] row, int[] other, int gap, int sign) {
      long carry = 0;
      for (int i = 0; i < row.length; i++) {
        carry += row[i] + (long) sign * shiftedLimb(other, i, gap);
        row[i] = (int) (carry & LIMB_MASK);
        carry >>= LIMB_BITS;
      }
    }
  }

  /**
   * Arithmetic modulo one number. Operands and answers are residues (below the modulus) but for
   * the operand of reduce; an answer may go into the row of an operand.
   */
  private static final class Residues {
    // Each step halves one of two numbers at least, or swaps them: 1,120 steps at most.
    private static final int MOST_STEPS = 5000;

    private final int[] modulus;
    // The modulus times 2 to the shift, so that its highest limb is great enough to guess by.
    private final int[] divisor;
    private final int[] work;
    private final int[] spare;
    private final int[] firstRest;
    private final int[] secondRest;
    private final int[] firstFactor;
    private final int[] secondFactor;
    private int size;
    private int shift;

    Residues(int limbs) {
      modulus = new int[limbs];
      divisor = new int[limbs];
      work = new int[2 * limbs + 1];
      spare = new int[limbs];
      firstRest = new int[limbs];
      secondRest = new int[limbs];
      firstFactor = new int[limbs];
      secondFactor = new int[limbs];
      size = 0;
      shift = 0;
    }

    /** Whether the number is not 0, so that there are residues of it. */
    boolean takeModulus(int[] number) {
      Numbers.copy(modulus, number);
      size = Numbers.sizeOf(modulus);
      if (size == 0) {
        return false;
      }
      shift = Integer.numberOfLeadingZeros(modulus[size - 1]) - 1;
      for (int i = 0; i < divisor.length; i++) {
        divisor[i] = Numbers.shiftedLimb(modulus, i, shift);
      }
      return true;
    }

    void reduce(int[] out, int[] number) {
      System.arraycopy(number, 0, work, 0, number.length);
      takeRemainder(out, number.length);
    }

    void add(int[] out, int[] one, int[] other) {
      long carry = Numbers.combine(out, one, other, 1);
      if (carry != 0 || Numbers.compare(out, modulus) >= 0) {
        Numbers.combine(out, out, modulus, -1);
      }
    }

    void twice(int[] out, int[] number) {
      add(out, number, number);
    }

    void thrice(int[] out, int[] number) {
      add(spare, number, number);
      add(out, spare, number);
    }

    void subtract(int[] out, int[] one, int[] other) {
      long borrow = Numbers.combine(out, one, other, -1);
      if (borrow != 0) {
        Numbers.combine(out, out, modulus, 1);
      }
    }

    void multiply(int[] out, int[] one, int[] other) {
      Arrays.fill(work, 0);
      for (int i = 0; i < size; i++) {
        long factor = one[i];
        long carry = 0;
        for (int j = 0; j < size; j++) {
          carry += factor * other[j] + work[i + j];
          work[i + j] = (int) (carry & LIMB_MASK);
          carry >>= LIMB_BITS;
        }
        work[i + size] = (int) carry;
      }
      takeRemainder(out, 2 * size);
    }

    /**
     * Euclid's way, each quotient taken off power of two by power of two. A rest is its factor
     * times the number, modulo the modulus; the signs of the two factors are never the same.
     */
    boolean invert(int[] out, int[] number) {
      int[] rest = firstRest;
      int[] next = secondRest;
      int[] factor = firstFactor;
      int[] nextFactor = secondFactor;
      Numbers.copy(rest, modulus);
      Numbers.copy(next, number);
      Numbers.set(factor, 0);
      Numbers.set(nextFactor, 1);
      boolean negative = true;
      for (int step = 0; step < MOST_STEPS && !Numbers.isZero(next); step++) {
        int gap = Numbers.gapBetween(rest, next);
        if (gap >= 0) {
          Numbers.addShifted(rest, next, gap, -1);
          Numbers.addShifted(factor, nextFactor, gap, 1);
        } else {
          int[] swapped = rest;
          rest = next;
          next = swapped;
          swapped = factor;
          factor = nextFactor;
          nextFactor = swapped;
          negative = !negative;
        }
      }
      if (Numbers.bitsOf(rest) != 1) {
        return false;
      }
      if (negative) {
        subtract(out, next, factor);
      } else {
        Numbers.copy(out, factor);
      }
      return true;
    }

    /** Writes the number in the first limbs of work, as many as told, modulo the modulus. */
    private void takeRemainder(int[] out, int length) {
      shiftWork(length);
      long top = size > 0 ? divisor[size - 1] : 0;
      if (top == 0) {
        return;
      }
      for (int at = length - size; at >= 0; at--) {
        long head = (long) work[at + size] << LIMB_BITS | work[at + size - 1];
        takeDivisorAway(Math.min(head / top, LIMB_MASK), at);
      }
      for (int i = 0; i < out.length; i++) {
        out[i] = i < size ? unshiftedLimb(i) : 0;
      }
    }

    private void shiftWork(int length) {
      work[length] = 0;
      for (int i = length; i > 0; i--) {
        long pair = (long) work[i] << LIMB_BITS | work[i - 1];
        work[i] = (int) ((pair >>> (LIMB_BITS - shift)) & LIMB_MASK);
      }
      work[0] = (int) (((long) work[0] << shift) & LIMB_MASK);
    }

    private int unshiftedLimb(int i) {
      return (int) ((((long) work[i + 1] << LIMB_BITS | work[i]) >>> shift) & LIMB_MASK);
    }

    /** Takes guess times the divisor off work from limb at on; a guess is 2 too great at most. */
    private void takeDivisorAway(long guess, int at) {
      long borrow = 0;
      for (int i = 0; i < size; i++) {
        borrow += work[at + i] - guess * divisor[i];
        work[at + i] = (int) (borrow & LIMB_MASK);
        borrow >>= LIMB_BITS;
      }
      borrow += work[at + size];
      for (int again = 0; again < 2 && borrow < 0; again++) {
        long carry = 0;
        for (int i = 0; i < size; i++) {
          carry += (long) work[at + i] + divisor[i];
          work[at + i] = (int) (carry & LIMB_MASK);
          carry >>= LIMB_BITS;
        }
        borrow += carry;
      }
      work[at + size] = 0;
    }
  }

  /** The identity (both rows 0), or a pair. */
  private static final class Point {
    final int[] x;
    final int[] y;
    boolean identity;

    Point(int limbs) {
      x = new int[limbs];
      y = new int[limbs];
      identity = true;
    }

    void becomeIdentity() {
      Numbers.set(x, 0);
      Numbers.set(y, 0);
      identity = true;
    }

    void copyFrom(Point other) {
      Numbers.copy(x, other.x);
      Numbers.copy(y, other.y);
      identity = other.identity;
    }

    boolean sameAs(Point other) {
      return identity == other.identity
          && Numbers.compare(x, other.x) == 0
          && Numbers.compare(y, other.y) == 0;
    }
  }

  /** The curve of the parameters' rows, which stay as they are while the desk is sealed. */
  private static final class Curve {
    private final int[] p;
    private final int[] a;
    private final int[] b;
    private final Residues field;
    private final int[] left;
    private final int[] right;

    Curve(int[][] parameters, Residues field) {
      p = parameters[P];
      a = parameters[A];
      b = parameters[B];
      this.field = field;
      left = new int[p.length];
      right = new int[p.length];
    }

    /** What seal answers for the parameters as they are; the field is modulo p if they are good. */
    int takeParameters() {
      if ((p[0] & 1) == 0 || Numbers.bitsOf(p) < 3) {
        return BAD_MODULUS;
      }
      if (Numbers.compare(a, p) >= 0 || Numbers.compare(b, p) >= 0) {
        return BAD_COEFFICIENT;
      }
      field.takeModulus(p);
      return isSingular() ? SINGULAR : SEALED_NOW;
    }

    private boolean isSingular() {
      field.multiply(left, a, a);
      field.multiply(left, left, a);
      field.twice(left, left);
      field.twice(left, left);
      field.multiply(right, b, b);
      field.thrice(right, right);
      field.thrice(right, right);
      field.thrice(right, right);
      field.add(left, left, right);
      return Numbers.isZero(left);
    }

    boolean holds(Point point) {
      if (point.identity) {
        return true;
      }
      if (Numbers.compare(point.x, p) >= 0 || Numbers.compare(point.y, p) >= 0) {
        return false;
      }
      field.multiply(left, point.y, point.y);
      field.multiply(right, point.x, point.x);
      field.add(right, right, a);
      field.multiply(right, right, point.x);
      field.add(right, right, b);
      return Numbers.compare(left, right) == 0;
    }

    void mirror(Point point) {
      if (!Numbers.isZero(point.y)) {
        Numbers.set(left, 0);
        field.subtract(point.y, left, point.y);
      }
    }
  }

  /**
   * A point that is added to: the identity, or (x / z z, y / z z z) modulo p. So one division at
   * the end does for all, and it tells of every one: each divisor of the document's slopes becomes
   * a factor of z and z is never set back, so z has an inverse only if all of them have.
   */
  private static final class RunningSum {
    private final Residues field;
    private final int[] a;
    private final int[] x;
    private final int[] y;
    private final int[] z;
    private boolean identity;
    private final int[] otherX;
    private final int[] otherY;
    private final int[] run;
    private final int[] rise;
    private final int[] s;
    private final int[] t;

    RunningSum(int limbs, Residues field, int[] a) {
      this.field = field;
      this.a = a;
      x = new int[limbs];
      y = new int[limbs];
      z = new int[limbs];
      identity = true;
      otherX = new int[limbs];
      otherY = new int[limbs];
      run = new int[limbs];
      rise = new int[limbs];
      s = new int[limbs];
      t = new int[limbs];
    }

    void startAtIdentity() {
      identity = true;
      Numbers.set(z, 1);
    }

    void takeTimes(int[] k, Point point) {
      startAtIdentity();
      for (int i = k.length - 1; i >= 0; i--) {
        for (int bit = LIMB_BITS - 1; bit >= 0; bit--) {
          addItself();
          if ((k[i] >>> bit & 1) == 1) {
            addPoint(point);
          }
        }
      }
    }

    void addPoint(Point other) {
      if (other.identity) {
        return;
      }
      bringToSameZ(other);
      if (identity) {
        Numbers.copy(x, otherX);
        Numbers.copy(y, otherY);
        identity = false;
        return;
      }
      field.subtract(run, otherX, x);
      field.subtract(rise, otherY, y);
      if (!Numbers.isZero(run)) {
        addAlongChord();
      } else if (Numbers.isZero(rise)) {
        addItself();
      } else {
        addAtSameX();
      }
    }

    /** False if there is no sum; then the point stays as it was. */
    boolean writeTo(Point point) {
      if (!field.invert(t, z)) {
        return false;
      }
      if (identity) {
        point.becomeIdentity();
        return true;
      }
      field.multiply(s, t, t);
      field.multiply(point.x, x, s);
      field.multiply(s, s, t);
      field.multiply(point.y, y, s);
      point.identity = false;
      return true;
    }

    private void bringToSameZ(Point other) {
      field.multiply(s, z, z);
      field.multiply(otherX, other.x, s);
      field.multiply(s, s, z);
      field.multiply(otherY, other.y, s);
    }

    /** The document's sum of a point and itself without its fractions; z takes in 2 y. */
    private void addItself() {
      if (identity) {
        return;
      }
      if (Numbers.isZero(y)) {
        identity = true;
        return;
      }
      field.multiply(s, z, z);
      field.multiply(s, s, s);
      field.multiply(s, s, a);
      field.multiply(rise, x, x);
      field.thrice(rise, rise);
      field.add(rise, rise, s);
      field.multiply(z, z, y);
      field.twice(z, z);
      field.multiply(s, y, y);
      field.multiply(t, x, s);
      field.twice(t, t);
      field.twice(t, t);
      field.multiply(x, rise, rise);
      field.subtract(x, x, t);
      field.subtract(x, x, t);
      field.subtract(t, t, x);
      field.multiply(t, t, rise);
      field.multiply(s, s, s);
      field.twice(s, s);
      field.twice(s, s);
      field.twice(s, s);
      field.subtract(y, t, s);
    }

    /** The document's sum for two X without its fractions; z takes in u - x. */
    private void addAlongChord() {
      field.multiply(z, z, run);
      field.multiply(s, run, run);
      field.multiply(t, x, s);
      field.multiply(s, s, run);
      field.multiply(x, rise, rise);
      field.subtract(x, x, s);
      field.subtract(x, x, t);
      field.subtract(x, x, t);
      field.subtract(t, t, x);
      field.multiply(t, t, rise);
      field.multiply(s, s, y);
      field.subtract(y, t, s);
    }

    /**
     * Here x = u and y is not v. Y Y is the same for both, so (y + v) (y - v) is 0: either y + v
     * is 0 and the sum is the identity, or nothing makes 1 of it: NO SUM, which z = 0 tells.
     */
    private void addAtSameX() {
      field.add(s, otherY, y);
      if (Numbers.isZero(s)) {
        identity = true;
      } else {
        Numbers.set(z, 0);
      }
    }
  }
}
