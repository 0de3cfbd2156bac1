import java.math.BigInteger;
import java.util.ArrayList;
import java.util.HashSet;
import java.util.List;
import java.util.Set;
import java.util.function.Predicate;
import java.util.function.Supplier;
import java.util.function.ToIntFunction;

/**
 * A LimbCurves whose answers are compared with those that are due. Tests tell first which sentence
 * of the document they stand for, so that a wrong answer is told with it.
 */
final class Desk {
  static final int MOST = Integer.MAX_VALUE;
  static final int LEAST = Integer.MIN_VALUE;
  static final int NONE = -1;
  static final int[] NO_SLOTS = {-1, 20, 21, MOST, LEAST};
  static final int[] NO_POINTS = {-1, 0, 1, 2, 3, 12, 13, 19, 20, MOST, LEAST};
  static final int[] NO_SCALARS = {-1, 0, 1, 2, 3, 4, 5, 11, 20, MOST, LEAST};

  // What an object answers after so many calls is free.
  private static final int MOST_CALLS = 512;

  private static final Set<String> told = new HashSet<>();
  private static String sentence = "";
  private static String lastCall = "";
  private static int compared = 0;
  private static int wrong = 0;

  private final LimbCurves curves;
  private final int limbs;
  private int calls = 0;

  Desk(int limbs) {
    curves = new LimbCurves(limbs);
    this.limbs = Math.max(1, Math.min(9, limbs));
    lastCall = "new LimbCurves(" + limbs + ")";
  }

  /** What follows would fail if this sentence of the document were broken. */
  static void says(String words) {
    sentence = words;
    told.add(words);
  }

  static void due(Object got, Object want) {
    compared++;
    if (!got.equals(want)) {
      wrong++;
      System.out.println(
          "\"" + sentence + "\": " + lastCall + " answered " + got + ", due is " + want);
    }
  }

  /** The call answers this, and no call can tell that it has been made. */
  static void changesNothing(Supplier<Desk> maker, ToIntFunction<Desk> call, int want) {
    Desk desk = maker.get();
    List<Integer> before = desk.picture();
    int got = call.applyAsInt(desk);
    String made = lastCall;
    due(got, want);
    List<Integer> after = desk.picture();
    lastCall = "everything after " + made;
    due(after, before);
  }

  static void refuses(Supplier<Desk> maker, Predicate<Desk> call) {
    changesNothing(maker, desk -> call.test(desk) ? 1 : 0, 0);
  }

  static void end() {
    System.out.println(told.size() + " sentences, " + compared + " answers, " + wrong + " wrong");
    if (wrong != 0 || compared == 0) {
      System.exit(1);
    }
  }

  int limbs() {
    return limbs;
  }

  static boolean isPoint(int slot) {
    return slot >= 4 && slot <= 11;
  }

  int limbsOf(int slot) {
    return isPoint(slot) ? 2 * limbs : limbs;
  }

  private void count(String name, int... given) {
    StringBuilder text = new StringBuilder(name).append('(');
    for (int i = 0; i < given.length; i++) {
      text.append(i == 0 ? "" : ", ").append(given[i]);
    }
    lastCall = text.append(')').toString();
    calls++;
    if (calls > MOST_CALLS) {
      throw new IllegalStateException("a test asks one object for more than is promised");
    }
  }

  boolean select(int slot) {
    count("select", slot);
    return curves.select(slot);
  }

  boolean feedLimb(int word) {
    count("feedLimb", word);
    return curves.feedLimb(word);
  }

  int seal() {
    count("seal");
    return curves.seal();
  }

  boolean open() {
    count("open");
    return curves.open();
  }

  int limb(int k, int i) {
    count("limb", k, i);
    return curves.limb(k, i);
  }

  boolean onCurve(int pt) {
    count("onCurve", pt);
    return curves.onCurve(pt);
  }

  boolean isInfinity(int pt) {
    count("isInfinity", pt);
    return curves.isInfinity(pt);
  }

  boolean addPts(int dst, int x, int y) {
    count("addPts", dst, x, y);
    return curves.addPts(dst, x, y);
  }

  boolean dbl(int dst, int x) {
    count("dbl", dst, x);
    return curves.dbl(dst, x);
  }

  boolean scalarMul(int dst, int k, int x) {
    count("scalarMul", dst, k, x);
    return curves.scalarMul(dst, k, x);
  }

  boolean negate(int dst, int x) {
    count("negate", dst, x);
    return curves.negate(dst, x);
  }

  boolean isSame(int x, int y) {
    count("isSame", x, y);
    return curves.isSame(x, y);
  }

  int verify(int q, int g, int e, int r, int s) {
    count("verify", q, g, e, r, s);
    return curves.verify(q, g, e, r, s);
  }

  boolean reckon(int what, int dst, int x, int y) {
    count("reckon", what, dst, x, y);
    return curves.reckon(what, dst, x, y);
  }

  int state(int what) {
    count("state", what);
    return curves.state(what);
  }

  Desk feed(int slot, int... words) {
    due(select(slot), true);
    for (int word : words) {
      due(feedLimb(word), true);
    }
    return this;
  }

  /** Feeds all limbs of the slot. */
  Desk feedGreat(int slot, BigInteger... values) {
    int[] words = new int[limbs * values.length];
    for (int i = 0; i < words.length; i++) {
      words[i] = values[i / limbs].shiftRight(31 * (i % limbs)).intValue() & MOST;
    }
    return feed(slot, words);
  }

  /** The number of a slot, or Y of a point's with from = L. */
  BigInteger great(int slot, int from) {
    BigInteger sum = BigInteger.ZERO;
    for (int i = limbs - 1; i >= 0; i--) {
      sum = sum.shiftLeft(31).add(BigInteger.valueOf(limb(slot, from + i)));
    }
    return sum;
  }

  void dueLimbs(int slot, int... words) {
    for (int i = 0; i < words.length; i++) {
      due(limb(slot, i), words[i]);
    }
  }

  void dueIdentity(int slot) {
    due(isInfinity(slot), true);
    dueLimbs(slot, new int[2 * limbs]);
  }

  void dueFed(int slot, int count) {
    due(state(2), slot);
    due(state(3), count);
  }

  void dueNotFed() {
    dueFed(NONE, 0);
    due(feedLimb(1), false);
  }

  /** All that the calls without an effect tell. */
  private List<Integer> picture() {
    List<Integer> seen = new ArrayList<>();
    for (int what = 0; what <= 3; what++) {
      seen.add(state(what));
    }
    for (int slot = 0; slot < 20; slot++) {
      for (int i = 0; i < limbsOf(slot); i++) {
        seen.add(limb(slot, i));
      }
      if (isPoint(slot)) {
        seen.add(isInfinity(slot) ? 1 : 0);
      }
    }
    return seen;
  }

  /** Modulo 23, A = B = 1: 27 pairs; (3, 10) in slot 4 makes them all, slot 5 is twice that. */
  static Desk open23() {
    return new Desk(1).feed(0, 23).feed(1, 1).feed(2, 1).feed(3, 28).feed(4, 3, 10).feed(5, 7, 12);
  }

  static Desk sealed23() {
    Desk desk = open23();
    due(desk.seal(), 0);
    return desk;
  }

  /** Modulo 35, which is no prime: (2, 1), (2, 6), (3, 14), (12, 4), (5, 4) in slots 4 to 8. */
  static Desk sealed35() {
    Desk desk = new Desk(1).feed(0, 35).feed(1, 1).feed(2, 26).feed(3, 31);
    due(desk.seal(), 0);
    return desk.feed(4, 2, 1).feed(5, 2, 6).feed(6, 3, 14).feed(7, 12, 4).feed(8, 5, 4);
  }

  /** Slot 9 is a pair that is not on the curve, 15 a scalar, and 10 a point that is fed still. */
  Desk withTraps() {
    return feed(9, 21, 22).feed(15, 99).feed(10, 20);
  }
}
