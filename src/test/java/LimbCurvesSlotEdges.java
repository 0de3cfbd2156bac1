import java.math.BigInteger;
import java.util.Arrays;
import java.util.function.Consumer;

/** The edges that the document names of slots, limbs, feeding, sealing: promises 1 to 6 and 16. */
public final class LimbCurvesSlotEdges {
  private static final int MOST = Desk.MOST;
  private static final int LEAST = Desk.LEAST;
  private static final int NONE = Desk.NONE;
  private static final BigInteger ONE = BigInteger.ONE;

  private static void due(Object got, Object want) {
    Desk.due(got, want);
  }

  private static void limbsOfNumbers() {
    Desk.says("0 .. 2^31 - 1 each");
    Desk desk = new Desk(3).feed(12, 0, MOST, 1);
    desk.dueLimbs(12, 0, MOST, 1);
    desk.feed(0, MOST, 0, MOST).dueLimbs(0, MOST, 0, MOST);
    desk.feed(11, MOST, MOST, MOST, MOST, MOST, MOST);
    desk.dueLimbs(11, MOST, MOST, MOST, MOST, MOST, MOST);

    Desk.says("limb i stands for 2 to the 31 i times");
    for (int limbs = 2; limbs <= 9; limbs++) {
      for (int i = 1; i < limbs; i++) {
        BigInteger power = ONE.shiftLeft(31 * i);
        desk = new Desk(limbs).feedGreat(3, ONE.shiftLeft(31 * limbs).subtract(ONE));
        desk.feedGreat(12, power.subtract(ONE)).feed(13, 1).feed(14, 2);
        due(desk.reckon(0, 15, 12, 13), true);
        for (int at = 0; at < limbs; at++) {
          due(desk.limb(15, at), at == i ? 1 : 0);
        }
        due(desk.reckon(1, 16, 15, 13), true);
        for (int at = 0; at < limbs; at++) {
          due(desk.limb(16, at), at < i ? MOST : 0);
        }
        due(desk.reckon(2, 17, 16, 14), true);
        due(desk.great(17, 0), power.shiftLeft(1).subtract(BigInteger.TWO));
      }
    }

    Desk.says("those that were not fed are 0");
    desk = new Desk(3).feed(13, 7, 8, 9).feed(6, 1, 2, 3, 4, 5, 6).feed(1, 7, 8, 9);
    desk.feed(13, 5).feed(6, 5, 6, 7, 8).feed(1, 5, 6);
    desk.dueLimbs(13, 5, 0, 0);
    desk.dueLimbs(6, 5, 6, 7, 8, 0, 0);
    desk.dueLimbs(1, 5, 6, 0);
  }

  private static void kindsOfSlots() {
    Desk.says("Slots 0 P, 1 A, 2 B, 3 ORDER are PARAMETERS");
    Desk desk = new Desk(1).feed(0, 23).feed(1, 1).feed(2, 5).feed(3, 10);
    due(desk.seal(), 0);
    for (int x = 0; x < 12; x++) {
      for (int y = 0; y < 12 - x; y++) {
        due(desk.feed(4, x, y).onCurve(4), (x * x * x + x + 5 - y * y) % 23 == 0);
      }
    }
    due(desk.feed(12, 14).reckon(0, 13, 12, 19), true);
    desk.dueLimbs(13, 4);

    Desk.says("4 to 11 POINTS, of two numbers, X, then Y; 12 to 19 SCALARS");
    desk = new Desk(2).feed(3, 1000);
    for (int slot = 0; slot < 20; slot++) {
      boolean point = slot >= 4 && slot <= 11;
      due(desk.isInfinity(slot), point);
      due(desk.isSame(slot, slot), point);
      due(desk.limb(slot, 2), point ? 0 : NONE);
      due(desk.limb(slot, 3), point ? 0 : NONE);
      due(desk.limb(slot, 4), NONE);
      boolean scalar = slot >= 12;
      due(desk.reckon(0, slot, 12, 19), scalar);
      due(desk.reckon(2, 12, slot, slot), scalar);
    }
    desk = Desk.sealed23().feed(12, 2);
    for (int slot = 0; slot < 20; slot++) {
      boolean point = slot >= 4 && slot <= 11;
      due(desk.onCurve(slot), point);
      due(desk.addPts(slot, 4, 4), point);
      desk.feed(4, 3, 10);
      due(desk.scalarMul(11, slot, 4), slot >= 12);
    }
    due(desk.feed(6, 3, 10).onCurve(6), true);
    due(desk.feed(6, 10, 3).onCurve(6), false);

    Desk.says("All are 0 at first, points THE IDENTITY.");
    for (int limbs = 1; limbs <= 9; limbs++) {
      desk = new Desk(limbs);
      for (int slot = 0; slot < 20; slot++) {
        desk.dueLimbs(slot, new int[desk.limbsOf(slot)]);
        due(desk.isInfinity(slot), slot >= 4 && slot <= 11);
      }
    }
  }

  private static void whichSlotIsFed() {
    Desk.says("One slot at most is FED: the one that was selected last");
    new Desk(2).dueNotFed();
    Desk desk = new Desk(2).feed(12, 5);
    desk.dueFed(12, 1);
    desk.feed(13);
    desk.dueFed(13, 0);
    due(desk.feedLimb(6), true);
    desk.dueLimbs(12, 5, 0);
    desk.dueLimbs(13, 6, 0);
    due(desk.feedLimb(7), true);
    desk.dueNotFed();
    desk.dueLimbs(12, 5, 0);

    Desk.says("till it has all its limbs (L; of a point 2 L)");
    for (int limbs = 1; limbs <= 9; limbs++) {
      for (int slot : new int[] {0, 1, 2, 3, 4, 11, 12, 19}) {
        desk = new Desk(limbs).feed(slot);
        int all = slot >= 4 && slot <= 11 ? 2 * limbs : limbs;
        for (int i = 0; i < all; i++) {
          desk.dueFed(slot, i);
          due(desk.feedLimb(100 + i), true);
        }
        desk.dueNotFed();
        for (int i = 0; i < all; i++) {
          due(desk.limb(slot, i), 100 + i);
        }
      }
    }

    Desk.says("A point that was selected is the identity, till its first limb comes");
    for (int slot = 4; slot <= 11; slot++) {
      desk = new Desk(2).feed(slot, 1, 2, 3, 4);
      due(desk.isInfinity(slot), false);
      desk.feed(slot).dueIdentity(slot);
      due(desk.feedLimb(-1), false);
      desk.dueIdentity(slot);

      Desk.says("then it is a PAIR (X, Y)");
      due(desk.feedLimb(0), true);
      due(desk.isInfinity(slot), false);
      due(desk.isSame(slot, slot == 4 ? 5 : 4), false);
      desk.dueLimbs(slot, 0, 0, 0, 0);
    }
  }

  /** The call writes into the slot, which was fed with these words and is fed no longer. */
  private static void endsFeeding(int slot, int[] words, Consumer<Desk> call) {
    Desk desk = Desk.sealed23().feed(12, 3).feed(slot, words);
    desk.dueFed(slot, words.length);
    call.accept(desk);
    desk.dueNotFed();

    desk = Desk.sealed23().feed(12, 3).feed(slot == 16 ? 17 : 7, words);
    call.accept(desk);
    desk.dueFed(slot == 16 ? 17 : 7, words.length);
    due(desk.feedLimb(8), true);
  }

  private static void whatEndsFeeding() {
    Desk.says("or something else is written into it");
    for (int[] words : new int[][] {{}, {4}}) {
      endsFeeding(6, words, desk -> due(desk.addPts(6, 4, 5), true));
      endsFeeding(6, words, desk -> due(desk.dbl(6, 4), true));
      endsFeeding(6, words, desk -> due(desk.scalarMul(6, 12, 4), true));
      endsFeeding(6, words, desk -> due(desk.negate(6, 4), true));
    }
    for (int what = 0; what <= 3; what++) {
      int operation = what;
      endsFeeding(16, new int[0], desk -> due(desk.reckon(operation, 16, 12, 12), true));
    }
    // (4, 0) is on the curve already when its first limb has come, and is its own negative.
    Desk desk = Desk.sealed23().feed(6, 4);
    due(desk.negate(6, 6), true);
    desk.dueNotFed();
    desk = Desk.sealed23().feed(6);
    due(desk.addPts(6, 6, 6), true);
    desk.dueNotFed();
    desk.dueIdentity(6);

    Desk.says("or (parameters) the desk is sealed");
    for (int slot = 0; slot < 4; slot++) {
      desk = new Desk(2).feed(0, 23, 0).feed(1, 1, 0).feed(2, 1, 0).feed(3, 28, 0);
      desk.feed(slot, slot == 0 ? 23 : 1);
      desk.dueFed(slot, 1);
      due(desk.seal(), 0);
      desk.dueNotFed();
      due(desk.open(), true);
      desk.dueNotFed();
      desk.dueLimbs(slot, slot == 0 ? 23 : 1, 0);
    }
    for (int slot : new int[] {4, 11, 12, 19}) {
      desk = new Desk(2).feed(0, 23).feed(1, 1).feed(2, 1).feed(slot, 9);
      due(desk.seal(), 0);
      desk.dueFed(slot, 1);
      due(desk.feedLimb(8), true);
      desk.dueLimbs(slot, 9, 8);
      desk = new Desk(2).feed(0, 23).feed(1, 1).feed(2, 1).feed(slot);
      due(desk.seal(), 0);
      desk.dueFed(slot, 0);
    }
  }

  private static void newObject() {
    Desk.says("THE DESK is OPEN at first, or SEALED.");
    Desk desk = Desk.open23();
    due(new Desk(1).state(1), 0);
    due(desk.state(1), 0);
    due(desk.onCurve(4), false);
    due(desk.seal(), 0);
    due(desk.state(1), 1);
    due(desk.onCurve(4), true);

    // Two desks have nothing in common.
    Desk other = new Desk(2).feed(12, 5);
    due(desk.feed(13).state(2), 13);
    other.dueFed(12, 1);
    due(other.state(1), 0);
    other.dueLimbs(0, 0, 0);

    Desk.says("L is 1 .. 9: what is below, above is brought to these.");
    int[] given = {1, 2, 3, 4, 5, 6, 7, 8, 9, 0, -1, -9, LEAST, LEAST + 1, 10, 11, MOST, MOST - 1};
    int[] limbs = {1, 2, 3, 4, 5, 6, 7, 8, 9, 1, 1, 1, 1, 1, 9, 9, 9, 9};
    for (int i = 0; i < given.length; i++) {
      desk = new Desk(given[i]);
      due(desk.state(0), limbs[i]);
      due(desk.limb(12, limbs[i] - 1), 0);
      due(desk.limb(12, limbs[i]), NONE);
      due(desk.limb(4, 2 * limbs[i] - 1), 0);
      due(desk.limb(4, 2 * limbs[i]), NONE);
      desk.feed(19, new int[limbs[i]]).dueNotFed();
      desk.feed(4, new int[2 * limbs[i]]).dueNotFed();
    }
  }

  private static void select() {
    Desk.says("its numbers are 0 (a point the identity), and it is FED from its first limb on");
    for (int slot = 0; slot < 20; slot++) {
      Desk desk = new Desk(2);
      int[] all = slot >= 4 && slot <= 11 ? new int[] {1, 2, 3, 4} : new int[] {1, 2};
      for (int fed = 0; fed <= all.length; fed++) {
        desk.feed(slot, Arrays.copyOf(all, fed));
        due(desk.select(slot), true);
        desk.dueLimbs(slot, new int[all.length]);
        due(desk.isInfinity(slot), slot >= 4 && slot <= 11);
        desk.dueFed(slot, 0);
        due(desk.feedLimb(9), true);
        due(desk.limb(slot, 0), 9);
        due(desk.limb(slot, 1), 0);
      }
    }

    Desk.says("whether there is such a slot");
    for (int slot = 0; slot < 20; slot++) {
      due(new Desk(1).select(slot), true);
    }
    for (int slot : Desk.NO_SLOTS) {
      Desk.refuses(() -> Desk.open23().withTraps(), desk -> desk.select(slot));
      Desk.refuses(() -> Desk.sealed23().withTraps(), desk -> desk.select(slot));
      Desk.refuses(() -> new Desk(1), desk -> desk.select(slot));
    }

    Desk.says("and it is no parameter while SEALED");
    for (int slot = 0; slot < 20; slot++) {
      int chosen = slot;
      if (slot < 4) {
        Desk.refuses(() -> Desk.sealed23().withTraps(), desk -> desk.select(chosen));
      } else {
        due(Desk.sealed23().select(slot), true);
      }
      Desk desk = Desk.sealed23();
      due(desk.open(), true);
      due(desk.select(slot), true);
      desk.dueFed(slot, 0);
    }
  }

  private static void feedLimb() {
    Desk.says("The next limb of the slot that is FED: whether there is one");
    Desk.refuses(() -> new Desk(1), desk -> desk.feedLimb(0));
    Desk.refuses(() -> Desk.open23(), desk -> desk.feedLimb(1));
    Desk.refuses(() -> Desk.sealed23(), desk -> desk.feedLimb(MOST));
    Desk.refuses(() -> new Desk(2).feed(12, 1, 2), desk -> desk.feedLimb(3));
    Desk.refuses(() -> new Desk(2).feed(4, 1, 2, 3, 4), desk -> desk.feedLimb(5));

    Desk.says("and word is 0 or more");
    for (int slot : new int[] {0, 3, 4, 11, 12, 19}) {
      for (int word : new int[] {-1, -2, LEAST, LEAST + 1, -MOST}) {
        Desk.refuses(() -> new Desk(2).feed(slot), desk -> desk.feedLimb(word));
        Desk.refuses(() -> new Desk(2).feed(slot, 6), desk -> desk.feedLimb(word));
      }
      for (int word : new int[] {0, 1, MOST - 1, MOST}) {
        Desk desk = new Desk(2).feed(slot, word);
        due(desk.feedLimb(-1), false);
        desk.dueFed(slot, 1);
        due(desk.feedLimb(word), true);
        desk.dueLimbs(slot, word, word);
      }
    }
  }

  private static Desk parameters(int limbs, BigInteger p, BigInteger a, BigInteger b) {
    return new Desk(limbs).feedGreat(0, p).feedGreat(1, a).feedGreat(2, b);
  }

  /** Seal answers a fault and changes nothing, or the desk is sealed and its slots stay. */
  private static void dueSeal(int want, int limbs, BigInteger p, BigInteger a, BigInteger b) {
    if (want != 0 && limbs <= 4) {
      Desk.changesNothing(() -> parameters(limbs, p, a, b), desk -> desk.seal(), want);
      return;
    }
    Desk desk = parameters(limbs, p, a, b);
    due(desk.seal(), want);
    due(desk.state(1), want == 0 ? 1 : 0);
    due(desk.onCurve(4), want == 0);
    due(desk.great(0, 0), p);
    due(desk.great(1, 0), a);
    due(desk.great(2, 0), b);
  }

  private static void dueSeal(int want, int limbs, long p, long a, long b) {
    dueSeal(want, limbs, BigInteger.valueOf(p), BigInteger.valueOf(a), BigInteger.valueOf(b));
  }

  private static void sealByModulus() {
    Desk.says("1: p is even or 3 at most");
    for (int limbs = 1; limbs <= 9; limbs++) {
      for (int p = 0; p < 12; p++) {
        dueSeal(p % 2 == 0 || p <= 3 ? 1 : 0, limbs, p, 1, 1);
      }
      for (int i = 1; i < limbs; i++) {
        BigInteger power = ONE.shiftLeft(31 * i);
        for (int low = 0; low <= 4; low++) {
          BigInteger p = power.add(BigInteger.valueOf(low));
          dueSeal(low % 2 == 0 ? 1 : 0, limbs, p, ONE, ONE);
        }
      }
      BigInteger most = ONE.shiftLeft(31 * limbs).subtract(ONE);
      dueSeal(0, limbs, most, ONE, ONE);
      dueSeal(1, limbs, most.subtract(ONE), ONE, ONE);
    }
    due(new Desk(1).seal(), 1);
    due(new Desk(9).seal(), 1);
  }

  private static void sealByCoefficients() {
    Desk.says("2: A or B is not below p");
    dueSeal(0, 1, 7, 6, 6);
    dueSeal(2, 1, 7, 7, 1);
    dueSeal(2, 1, 7, 8, 1);
    dueSeal(2, 1, 7, 1, 7);
    dueSeal(2, 1, 7, 1, 8);
    dueSeal(2, 1, 7, 7, 7);
    dueSeal(2, 1, 7, MOST, 1);
    dueSeal(2, 1, 7, 1, MOST);
    dueSeal(0, 1, MOST, MOST - 1, 1);
    dueSeal(2, 1, MOST, MOST, 1);
    for (int limbs = 2; limbs <= 9; limbs++) {
      // The highest limb says which is greater, whatever the lower ones are.
      BigInteger p = ONE.shiftLeft(31 * (limbs - 1)).multiply(BigInteger.valueOf(5)).add(ONE);
      BigInteger below = p.subtract(BigInteger.TWO);
      dueSeal(0, limbs, p, below, ONE);
      dueSeal(0, limbs, p, ONE, below);
      dueSeal(2, limbs, p, p, ONE);
      dueSeal(2, limbs, p, ONE, p);
      dueSeal(2, limbs, p, p.add(ONE), ONE);
      dueSeal(2, limbs, p, ONE, p.add(ONE));
      dueSeal(2, limbs, BigInteger.valueOf(23), ONE.shiftLeft(31 * (limbs - 1)), ONE);
      dueSeal(2, limbs, BigInteger.valueOf(23), ONE, ONE.shiftLeft(31 * (limbs - 1)));
    }
  }

  private static void sealBySum() {
    Desk.says("3: 4 A A A + 27 B B is 0 modulo p");
    for (int p = 5; p <= 21; p += 2) {
      for (int a = 0; a < p; a++) {
        for (int b = 0; b < p; b++) {
          dueSeal((4 * a * a * a + 27 * b * b) % p == 0 ? 3 : 0, 1, p, a, b);
        }
      }
    }
    for (int limbs = 1; limbs <= 9; limbs++) {
      BigInteger p = ONE.shiftLeft(31 * limbs).subtract(ONE);
      for (int bits = 0; bits < 31 * limbs; bits += 15) {
        // With A = - 3 t t and B = 2 t t t the sum is 0 for every t.
        BigInteger t = ONE.shiftLeft(bits).add(BigInteger.valueOf(bits));
        BigInteger a = t.pow(2).multiply(BigInteger.valueOf(-3)).mod(p);
        BigInteger b = t.pow(3).shiftLeft(1).mod(p);
        dueSeal(3, limbs, p, a, b);
        dueSeal(3, limbs, p, a, p.subtract(b).mod(p));
        dueSeal(0, limbs, p, a, b.add(ONE).mod(p));
      }
      dueSeal(3, limbs, p, BigInteger.ZERO, BigInteger.ZERO);
    }
  }

  private static void sealByOrderOfFaults() {
    Desk.says("(the first of these)");
    dueSeal(1, 1, 0, 0, 0);
    dueSeal(1, 1, 3, 3, 3);
    dueSeal(1, 1, 4, 5, 0);
    dueSeal(1, 1, 4, 0, 0);
    dueSeal(1, 1, 3, 0, 0);
    dueSeal(2, 1, 5, 5, 0);
    dueSeal(2, 1, 5, 0, 5);
    dueSeal(2, 1, 5, 10, 5);
    dueSeal(3, 1, 5, 0, 0);

    Desk.says("4: it is SEALED already");
    Desk.changesNothing(() -> Desk.sealed23(), desk -> desk.seal(), 4);
    Desk.changesNothing(() -> Desk.sealed23().withTraps(), desk -> desk.seal(), 4);
    Desk desk = Desk.sealed23();
    due(desk.seal(), 4);
    due(desk.seal(), 4);
    due(desk.onCurve(4), true);
    due(desk.open(), true);
    due(desk.seal(), 0);
    due(desk.seal(), 4);

    Desk.says("1: p is even or 3 at most; 2: A or B is not below p; 3: 4 A A A + 27 B B is 0"
        + " modulo p (the first of these); 4: it is SEALED already");
    int[][] faults = {{1, 4, 1, 1}, {2, 5, 5, 1}, {2, 5, 1, 5}, {3, 5, 0, 0}};
    for (int[] fault : faults) {
      for (int slot = 0; slot < 20; slot++) {
        int fed = slot;
        Desk.changesNothing(() -> faulty(fault, fed), one -> one.seal(), fault[0]);
        desk = faulty(fault, slot);
        due(desk.seal(), fault[0]);
        desk.dueFed(slot, 1);
        due(desk.feedLimb(77), true);
        due(desk.limb(slot, 1), 77);
      }
    }
  }

  /** A desk that answers this fault, with one limb fed into the slot and more to come. */
  private static Desk faulty(int[] fault, int slot) {
    Desk desk = new Desk(2).feed(0, fault[1]).feed(1, fault[2]).feed(2, fault[3]);
    return desk.feed(slot, slot < 3 ? fault[slot + 1] : 9);
  }

  private static void sealAfterFaults() {
    Desk.says("The desk is SEALED: 0");
    Desk desk = new Desk(1).feed(0, 22);
    due(desk.seal(), 1);
    due(desk.feed(0, 23).seal(), 3);
    due(desk.feed(1, 23).seal(), 2);
    due(desk.feed(1, 1).feed(2, 23).seal(), 2);
    due(desk.state(1), 0);
    due(desk.feed(2, 1).seal(), 0);
    due(desk.state(1), 1);
    due(desk.feed(4, 3, 10).onCurve(4), true);
    // The curve is the one of the parameters at the last seal.
    due(desk.open(), true);
    due(desk.feed(0, 5).feed(1, 0).feed(2, 0).seal(), 3);
    due(desk.onCurve(4), false);
    due(desk.feed(2, 3).seal(), 0);
    due(desk.onCurve(4), false);
    due(desk.feed(4, 3, 0).onCurve(4), true);
  }

  private static void open() {
    Desk.says("The desk is OPEN (slots stay): whether it was SEALED.");
    Desk.refuses(() -> new Desk(1), desk -> desk.open());
    Desk.refuses(() -> Desk.open23().withTraps(), desk -> desk.open());
    Desk desk = Desk.sealed23().withTraps();
    due(desk.open(), true);
    due(desk.state(1), 0);
    desk.dueFed(10, 1);
    desk.dueLimbs(0, 23);
    desk.dueLimbs(1, 1);
    desk.dueLimbs(2, 1);
    desk.dueLimbs(3, 28);
    desk.dueLimbs(4, 3, 10);
    desk.dueLimbs(5, 7, 12);
    desk.dueLimbs(9, 21, 22);
    desk.dueLimbs(10, 20, 0);
    desk.dueLimbs(15, 99);
    desk.dueIdentity(11);
    due(desk.open(), false);
    due(desk.onCurve(4), false);
    due(desk.addPts(6, 4, 5), false);
    due(desk.seal(), 0);
    due(desk.addPts(6, 4, 5), true);
  }

  private static void limb() {
    Desk.says("Limb i of slot k (of a point 0 .. 2 L - 1; of the identity 0)");
    for (int limbs = 1; limbs <= 9; limbs++) {
      for (int slot = 0; slot < 20; slot++) {
        Desk desk = new Desk(limbs).feed(slot);
        int all = desk.limbsOf(slot);
        for (int i = 0; i < all; i++) {
          due(desk.feedLimb(1000 * slot + i), true);
        }
        for (int i = 0; i < all; i++) {
          due(desk.limb(slot, i), 1000 * slot + i);
        }

        Desk.says("NONE: no such slot or limb.");
        for (int i : new int[] {-1, -2, LEAST, all, all + 1, 2 * limbs, 2 * limbs + 1, 31, MOST}) {
          due(desk.limb(slot, i), NONE);
        }
      }
    }
    for (int slot : Desk.NO_SLOTS) {
      for (int i : new int[] {-1, 0, 1, 2, MOST, LEAST}) {
        due(Desk.open23().limb(slot, i), NONE);
      }
    }
    Desk.says("of the identity 0");
    Desk desk = Desk.sealed23();
    due(desk.negate(6, 4), true);
    due(desk.addPts(4, 4, 6), true);
    desk.dueIdentity(4);
    due(desk.limb(4, 2), NONE);
    due(desk.scalarMul(5, 12, 5), true);
    desk.dueIdentity(5);
    due(desk.negate(6, 5), true);
    desk.dueIdentity(6);
  }

  private static void state() {
    Desk.says("What = 0 L, 1 whether the desk is SEALED (1)");
    Desk desk = Desk.open23();
    due(desk.state(0), 1);
    due(desk.state(1), 0);
    due(desk.seal(), 0);
    due(desk.state(1), 1);
    due(desk.open(), true);
    due(desk.state(1), 0);

    Desk.says("2 the slot that is FED (NONE), 3 how many limbs it has by now (0 without)");
    due(desk.state(2), NONE);
    due(desk.state(3), 0);
    for (int slot = 0; slot < 20; slot++) {
      desk = new Desk(9).feed(slot);
      for (int i = 0; i < desk.limbsOf(slot); i++) {
        due(desk.state(2), slot);
        due(desk.state(3), i);
        due(desk.feedLimb(i), true);
      }
      due(desk.state(2), NONE);
      due(desk.state(3), 0);
    }

    Desk.says("NONE: no such what.");
    due(LimbCurves.NONE, NONE);
    for (int what : new int[] {-1, -2, 4, 5, LEAST, MOST}) {
      due(new Desk(1).state(what), NONE);
      due(Desk.sealed23().withTraps().state(what), NONE);
    }
  }

  private static void manyCalls() {
    Desk.says("An object is used for at most 512 calls after it has been made");
    for (int limbs = 1; limbs <= 9; limbs++) {
      Desk desk = new Desk(limbs);
      for (int call = 1; call <= 510; call += 2) {
        due(desk.select(12 + call % 7), true);
        due(desk.feedLimb(call), true);
      }
      due(desk.limb(12 + 509 % 7, 0), 509);
      due(desk.state(2), limbs == 1 ? NONE : 12 + 509 % 7);
    }
  }

  public static void main(String[] args) {
    limbsOfNumbers();
    kindsOfSlots();
    whichSlotIsFed();
    whatEndsFeeding();
    newObject();
    select();
    feedLimb();
    sealByModulus();
    sealByCoefficients();
    sealBySum();
    sealByOrderOfFaults();
    sealAfterFaults();
    open();
    limb();
    state();
    manyCalls();
    Desk.end();
  }
}
