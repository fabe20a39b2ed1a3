import java.util.function.IntConsumer;

/** Terms and promises 4 and 5, the boundaries of words: where they are and what they keep. */
public final class BoundaryWordsTest {
  private static final int LEAST = Integer.MIN_VALUE;
  private static final int GREATEST = Integer.MAX_VALUE;
  private static final int[] WORDS = {
    4, 8, 12, 16, 20, 24, 28, 32, 36, 40, 44, 48, 52, 56, 60,
    64, 128, 132, 136, 144, 148, 152, 192, 196, 200, 204, 208
  };

  private static void checkLoad(int address, Class<? extends RuntimeException> kind) {
    for (int privilege : new int[] {0, 1, 3}) {
      Check.refuses(
          "load(" + address + ")",
          kind,
          () -> Harts.busy(privilege),
          hart -> hart.load(address));
    }
  }

  private static void checkStore(int address, Class<? extends RuntimeException> kind) {
    for (int privilege : new int[] {0, 1, 3}) {
      for (int value : new int[] {0, 1, -1}) {
        Check.refuses(
            "store(" + address + ", " + value + ")",
            kind,
            () -> Harts.busy(privilege),
            hart -> hart.store(address, value));
      }
    }
  }

  private static void checkAbsent(int address) {
    checkLoad(address, IndexOutOfBoundsException.class);
    checkStore(address, IndexOutOfBoundsException.class);
  }

  private static void checkWrong(int address) {
    checkLoad(address, IllegalArgumentException.class);
    checkStore(address, IllegalArgumentException.class);
  }

  private static void each(IntConsumer check, int... addresses) {
    for (int address : addresses) {
      check.accept(address);
    }
  }

  private static void checkKept(int address, int[][] writtenAndKept) {
    for (int[] pair : writtenAndKept) {
      TrapHart hart = new TrapHart(0);
      hart.store(address, ~pair[0]);
      hart.store(address, pair[0]);
      Check.is("word " + address + " written " + pair[0], hart.load(address), pair[1]);
    }
  }

  private static void checkThreeBits(int address) {
    checkKept(
        address,
        new int[][] {
          {0, 0}, {1, 1}, {7, 7}, {8, 0}, {9, 1}, {15, 7}, {16, 0}, {-1, 7}, {-8, 0}, {LEAST, 0},
          {GREATEST, 7}
        });
  }

  private static void firstPriority() {
    TrapHart hart = new TrapHart(0);
    hart.store(4, 5);
    Check.is("word 4", hart.load(4), 5);
    Check.is("word 8", hart.load(8), 0);
    hart.store(128, -1);
    hart.lines(-1);
    Check.is("it is that of source 1", hart.load(136), 1);
  }

  private static void lastPriority() {
    TrapHart hart = new TrapHart(0);
    hart.store(60, 5);
    Check.is("word 60", hart.load(60), 5);
    Check.is("word 56", hart.load(56), 0);
    Check.is("word 64 is no priority", hart.load(64), 0);
    hart.store(128, -1);
    hart.lines(-1);
    Check.is("it is that of source 15", hart.load(136), 15);
  }

  private static void pendingSetEmptyAndFull() {
    TrapHart hart = new TrapHart(0);
    Check.is("empty", hart.load(64), 0);
    hart.lines(-1);
    Check.is("full", hart.load(64), 0xFFFE);
  }

  private static void pendingSetBitByBit() {
    for (int s = 1; s <= 15; s++) {
      TrapHart hart = new TrapHart(0);
      hart.lines(1 << s);
      Check.is("source " + s, hart.load(64), 1 << s);
    }
  }

  private static void contextsHaveTheirOwnWords() {
    TrapHart hart = new TrapHart(0);
    hart.store(128, 2);
    hart.store(132, 3);
    Check.is("enabled of 1", hart.load(144), 0);
    Check.is("threshold of 1", hart.load(148), 0);
    hart.store(144, 4);
    hart.store(148, 5);
    Check.is("enabled of 0", hart.load(128), 2);
    Check.is("threshold of 0", hart.load(132), 3);
  }

  private static void readingClaimsOnlyThere() {
    TrapHart hart = new TrapHart(0);
    hart.store(4, 1);
    hart.store(128, 2);
    hart.store(144, 2);
    hart.lines(2);
    for (int address : new int[] {4, 64, 128, 132, 144, 148, 192, 196, 200, 204, 208}) {
      hart.load(address);
    }
    Check.is("not served", hart.source(1), 0);
    Check.is("pending", hart.load(64), 2);
  }

  private static void thresholdsStandApart() {
    TrapHart hart = new TrapHart(0);
    hart.store(132, 7);
    Check.is("of 0", hart.load(132), 7);
    Check.is("of 1", hart.load(148), 0);
    hart.store(148, 1);
    Check.is("of 0", hart.load(132), 7);
    Check.is("of 1", hart.load(148), 1);
  }

  private static void writingCompletesAndNothingElse() {
    for (int c = 0; c <= 1; c++) {
      TrapHart hart = new TrapHart(0);
      hart.store(4, 1);
      hart.store(128 + 16 * c, 2);
      hart.lines(2);
      hart.store(136 + 16 * c, 1);
      Check.is("it does not claim", hart.source(1), 0);
      Check.is("still pending", hart.load(64), 2);
      Check.is("nor is it kept", hart.load(136 + 16 * c), 1);
      Check.is("nor twice", hart.load(136 + 16 * c), 0);
    }
  }

  private static void halvesOf(int lower, int higher) {
    for (int value : new int[] {0, 1, -1, LEAST, GREATEST}) {
      TrapHart hart = new TrapHart(0);
      hart.store(lower, 0x1234567);
      hart.store(higher, value);
      Check.is("higher half", hart.load(higher), value);
      Check.is("lower half stays", hart.load(lower), 0x1234567);
      hart.store(higher, 0x7654321);
      hart.store(lower, value);
      Check.is("lower half", hart.load(lower), value);
      Check.is("higher half stays", hart.load(higher), 0x7654321);
    }
  }

  private static void everyPriorityKeepsThreeBits() {
    for (int s = 1; s <= 15; s++) {
      checkThreeBits(4 * s);
    }
  }

  private static void bothThresholdsKeepThreeBits() {
    checkThreeBits(132);
    checkThreeBits(148);
  }

  private static void enabledSetsKeepFifteenBits() {
    int[][] kept = {
      {0, 0}, {1, 0}, {2, 2}, {3, 2}, {1 << 15, 1 << 15}, {1 << 16, 0}, {0xFFFF, 0xFFFE},
      {-1, 0xFFFE}, {LEAST, 0}, {GREATEST, 0xFFFE}, {0xFFFF0001, 0}
    };
    checkKept(128, kept);
    checkKept(144, kept);
  }

  private static void softKeepsOneBit() {
    checkKept(
        192,
        new int[][] {{0, 0}, {1, 1}, {2, 0}, {3, 1}, {-1, 1}, {-2, 0}, {LEAST, 0}, {GREATEST, 1}});
  }

  private static void keptBitsAloneCount() {
    TrapHart hart = new TrapHart(0);
    hart.store(4, 8);
    hart.store(128, 2);
    hart.lines(2);
    Check.is("priority 8 is 0: no claim", hart.load(136), 0);
    hart.store(4, 9);
    hart.store(132, 8);
    Check.is("priority 9 is 1, threshold 8 is 0", hart.read(Harts.PENDING), 1 << 11);
    hart.store(192, 2);
    Check.is("soft 2 is 0", hart.read(Harts.PENDING), 1 << 11);
  }

  private static void fixedIsReadAllTheSame() {
    TrapHart hart = new TrapHart(0);
    hart.lines(2);
    Check.is("load(64)", hart.load(64), 2);
    Check.is("access(64)", hart.access(64, false, 9), 2);
  }

  private static void onlySixtyFourIsFixed() {
    TrapHart hart = new TrapHart(0);
    for (int address : new int[] {60, 128, 136, 144, 152, 192, 208}) {
      hart.store(address, 0);
    }
    Check.is("word 60 is written", hart.load(60), 0);
  }

  /** The claims too are written, but as nothing is served they complete nothing. */
  private static void otherWordsStay() {
    for (int written : WORDS) {
      for (int other : WORDS) {
        if (other != written && written != 64 && other != 64) {
          checkStays(written, other);
        }
      }
    }
  }

  private static void checkStays(int written, int other) {
    for (int value : new int[] {0, -1}) {
      TrapHart hart = new TrapHart(0);
      hart.store(other, ~value);
      int before = hart.load(other);
      hart.store(written, value);
      Check.is("word " + other + " after " + written, hart.load(other), before);
    }
  }

  private static void everyOtherAddressIsNotThere() {
    int there = 0;
    for (int address = -128; address <= 1024; address += 4) {
      try {
        new TrapHart(0).load(address);
        there++;
      } catch (IndexOutOfBoundsException e) {
        // It is one of the others, and only counted as that.
      }
    }
    Check.is("words there", there, WORDS.length);
  }

  private static void testPlaces() {
    String others = "WORDS at ADDRESSES (all others are not there)";
    IntConsumer absent = BoundaryWordsTest::checkAbsent;
    Check.test(others, "0, before the first", () -> each(absent, 0));
    Check.test(others, "after the pending set", () -> each(absent, 68, 72, 96, 120, 124));
    Check.test(others, "between the contexts", () -> each(absent, 140));
    Check.test(others, "after the contexts", () -> each(absent, 156, 160, 164, 168, 184, 188));
    Check.test(others, "before the contexts", () -> each(absent, 112, 116, 120));
    Check.test(others, "after the last", () -> each(absent, 212, 216, 256, 512, 1024));
    Check.test(others, "below 0", () -> each(absent, -4, -8, -64, -128, -192, LEAST));
    Check.test(others, "far", () -> each(absent, GREATEST - 3, 0x40000004, 0x10040, 0x1000080));
    Check.test(others, "counted", BoundaryWordsTest::everyOtherAddressIsNotThere);
    String priorities = "4 * s: the priority of source s";
    Check.test(priorities, "1, the first", BoundaryWordsTest::firstPriority);
    Check.test(priorities, "15, the last", BoundaryWordsTest::lastPriority);
    String pending = "64: the set of the pending sources, bit s for s";
    Check.test(pending, "empty, full", BoundaryWordsTest::pendingSetEmptyAndFull);
    Check.test(pending, "each bit", BoundaryWordsTest::pendingSetBitByBit);
    String contexts = "128 + 16 * c: the enabled set of context c";
    Check.test(contexts, "0 and 1", BoundaryWordsTest::contextsHaveTheirOwnWords);
    String claims = "136 + 16 * c: reading it claims and gives what was found";
    Check.test(claims, "no other does", BoundaryWordsTest::readingClaimsOnlyThere);
    String completes = "writing completes the number written";
    Check.test(completes, "no more", BoundaryWordsTest::writingCompletesAndNothingElse);
    String threshold = "132 + 16 * c: its threshold";
    Check.test(threshold, "0 and 1", BoundaryWordsTest::thresholdsStandApart);
    String halves = "196 and 200: the lower and the higher half of COMPARE";
    Check.test(halves, "all values", () -> halvesOf(196, 200));
    Check.test("204 and 208: those of TIME", "all values", () -> halvesOf(204, 208));
  }

  private static void testKept() {
    String three = "a priority and a threshold keep the three lowest bits";
    Check.test(three, "priorities", BoundaryWordsTest::everyPriorityKeepsThreeBits);
    Check.test(three, "thresholds", BoundaryWordsTest::bothThresholdsKeepThreeBits);
    Check.test(three, "by what they do", BoundaryWordsTest::keptBitsAloneCount);
    String set = "an enabled set bits 1 to 15";
    Check.test(set, "0, 1, 15 and 16", BoundaryWordsTest::enabledSetsKeepFifteenBits);
    Check.test("the soft bit the lowest one", "0 and 1", BoundaryWordsTest::softKeepsOneBit);
  }

  private static void testRefused() {
    String wrong = "An address is WRONG if it isn't divisible by 4";
    IntConsumer isWrong = BoundaryWordsTest::checkWrong;
    Check.test(wrong, "1, 2 and 3 more", () -> each(isWrong, 129, 130, 131));
    Check.test(wrong, "below 0", () -> each(isWrong, -1, -2, -3, LEAST + 1));
    Check.test(wrong, "the greatest", () -> each(isWrong, GREATEST, GREATEST - 1, GREATEST - 2));
    String absent = "else it is ABSENT if no word is there";
    Check.test(absent, "wrong and absent", () -> each(isWrong, 1, 2, 3, 69, 141, 157, 213, -5));
    String fixed = "for writing, it is FIXED if it is 64";
    Check.test(fixed, "wrong beside it", () -> each(isWrong, 63, 65, 66, 67));
    Check.test(fixed, "absent after it", () -> checkAbsent(68));
    Check.test(fixed, "64", () -> checkStore(64, UnsupportedOperationException.class));
    Check.test(fixed, "for reading", BoundaryWordsTest::fixedIsReadAllTheSame);
    Check.test(fixed, "no other", BoundaryWordsTest::onlySixtyFourIsFixed);
  }

  private static void testPromises() {
    String at = "Writes the word at an address";
    Check.test(at, "no other", BoundaryWordsTest::otherWordsStay);
    String wrong = "IllegalArgumentException if the address is wrong";
    Class<? extends RuntimeException> isWrong = IllegalArgumentException.class;
    Check.test(wrong, "load", () -> each(a -> checkLoad(a, isWrong), 5, 6, 7, 210));
    Check.test(wrong, "store", () -> each(a -> checkStore(a, isWrong), 5, 6, 7, 210));
    String absent = "IndexOutOfBoundsException if it is absent";
    Class<? extends RuntimeException> isAbsent = IndexOutOfBoundsException.class;
    Check.test(absent, "load", () -> each(a -> checkLoad(a, isAbsent), 0, 68, 188, 212));
    Check.test(absent, "store", () -> each(a -> checkStore(a, isAbsent), 0, 68, 188, 212));
    String fixed = "UnsupportedOperationException if it is fixed";
    Class<? extends RuntimeException> isFixed = UnsupportedOperationException.class;
    Check.test(fixed, "store", () -> checkStore(64, isFixed));
    String first = "What a call says first is tested first";
    Check.test(first, "wrong before absent", () -> each(a -> checkStore(a, isWrong), 1, 215));
    Check.test(first, "absent before fixed", () -> checkStore(68, isAbsent));
    Check.test(first, "wrong before fixed", () -> checkStore(64 + 1, isWrong));
  }

  public static void main(String[] args) {
    testPlaces();
    testKept();
    testRefused();
    testPromises();
    Check.end("BoundaryWordsTest");
  }
}
