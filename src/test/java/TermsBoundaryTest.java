import java.math.BigInteger;

/**
 * The boundary cases that the document's terms name, each with a test of its own.
 *
 * The steps that make a z can be gone back, so a seed can be found for any z at any place: that
 * puts the edges of 64 bits where a random seed would never bring them.
 */
public final class TermsBoundaryTest {
    private static final BigInteger WRAP = BigInteger.ONE.shiftLeft(64);
    private static final BigInteger GOLDEN = new BigInteger("9E3779B97F4A7C15", 16);
    private static final BigInteger FIRST = new BigInteger("BF58476D1CE4E5B9", 16);
    private static final BigInteger SECOND = new BigInteger("94D049BB133111EB", 16);

    private static final long ALL_ONES = -1L;
    private static final long HIGHEST_BIT = Long.MIN_VALUE;
    private static final long BELOW_HIGHEST_BIT = Long.MAX_VALUE;

    private static final String[] SIGNS = {
        "### #.# #.# #.# ###", ".#. ##. .#. .#. ###", "### ..# ### #.. ###", "### ..# ### ..# ###",
        "#.# #.# ### ..# ..#", "### #.. ### ..# ###", "### #.. ### #.# ###", "### ..# ..# ..# ..#",
        "### #.# ### #.# ###", "### #.# ### ..# ###",
    };

    private static int wrong = 0;

    private static void due(String call, long got, long want) {
        if (got != want) {
            wrong++;
            System.out.println(call + " answered " + got + ", due is " + want);
        }
    }

    private static void due(String call, boolean got, boolean want) {
        due(call, got ? 1 : 0, want ? 1 : 0);
    }

    public static void main(String[] args) {
        numberSumWraps();
        numberProductsWrap();
        numberZerosComeInBy30();
        numberZerosComeInBy27();
        numberZerosComeInBy31();
        numberOfNoughtIsNought();
        drawingKindTooSmallOrTooLarge();
        drawingSizeTooSmallOrTooLarge();
        drawingHasSizeAndOneParts();
        factsOfTheGreatestNumber();
        factsOfTheHighestBit();
        factsBelowTheHighestBit();
        factsAtTheirModuli();
        factsEachTellSeedsApart();
        factsAloneTellSeedsApart();
        faultsOfOneMachine();
        faultsHalfIsCut();
        faultsGreatestWithoutSign();
        faultsLeastWithoutSign();
        faultsOverTheHighestBit();
        faultsOfOtherKinds();
        sheetHasTwelveTimesTwentyPoints();
        sheetShowsEverySign();
        sheetSignIsTheLastDigit();
        noiseAtItsEdges();
        noiseWithoutSign();
        noiseOfTheLastPointOfTheLastSheet();
        verdictNotToldDoesNotStay();
        verdictToldFalseDoesNotStay();
        shorterWhenItDoesNotStayForAll();
        shorterKeepsTheLastOne();
        shorterGoesOnBehind();
        shorterGoesThroughAgain();
        shorterEndsWhenNoneWasTakenOut();
        System.out.println(wrong == 0 ? "all boundaries of the terms hold" : wrong + " answers are not as due");
        if (wrong != 0) {
            System.exit(1);
        }
    }

    // A z by whole numbers without bounds, and the seed that brings a given one.

    private static BigInteger unsigned(long bits) {
        return BigInteger.valueOf(bits).mod(WRAP);
    }

    private static BigInteger stepsOf(int kind, int place) {
        return GOLDEN.multiply(BigInteger.valueOf(1 + place + 64L * kind));
    }

    private static BigInteger number(long seed, int kind, int place) {
        BigInteger z = BigInteger.valueOf(seed).add(stepsOf(kind, place)).mod(WRAP);
        z = z.xor(z.shiftRight(30)).multiply(FIRST).mod(WRAP);
        z = z.xor(z.shiftRight(27)).multiply(SECOND).mod(WRAP);
        return z.xor(z.shiftRight(31));
    }

    private static BigInteger unshift(BigInteger z, int by) {
        return z.xor(z.shiftRight(by)).xor(z.shiftRight(2 * by));
    }

    private static long seedFromStart(BigInteger start, int kind, int place) {
        return start.subtract(stepsOf(kind, place)).longValue();
    }

    private static BigInteger startFromFirst(BigInteger first) {
        return unshift(first.multiply(FIRST.modInverse(WRAP)).mod(WRAP), 30);
    }

    private static BigInteger firstFromSecond(BigInteger second) {
        return unshift(second.multiply(SECOND.modInverse(WRAP)).mod(WRAP), 27);
    }

    private static long seedFor(long z, int kind, int place) {
        BigInteger second = unshift(unsigned(z), 31);
        return seedFromStart(startFromFirst(firstFromSecond(second)), kind, place);
    }

    private static int modulo(BigInteger z, int shift, int by) {
        return z.shiftRight(shift).mod(BigInteger.valueOf(by)).intValue();
    }

    private static PostDrawer drawn(long seed, int kind, int size) {
        PostDrawer x = new PostDrawer(0);
        x.seed(seed);
        due("draw(" + kind + ", " + size + ")", x.draw(kind, size), size + 1);
        return x;
    }

    private static void dueFacts(String what, PostDrawer x, int i, int one, int two, int three, int four) {
        due(what + ", fact 1 of " + i, x.part(i, 1), one);
        due(what + ", fact 2 of " + i, x.part(i, 2), two);
        due(what + ", fact 3 of " + i, x.part(i, 3), three);
        due(what + ", fact 4 of " + i, x.part(i, 4), four);
    }

    private static void dueNumber(String what, long seed, int kind, int place) {
        BigInteger z = number(seed, kind, place);
        PostDrawer x = drawn(seed, kind, place);
        dueFacts(what + ", seed " + seed + ", kind " + kind, x, place,
            modulo(z, 0, 100), modulo(z, 8, 1000), modulo(z, 24, 24), modulo(z, 40, 2));
    }

    // THE NUMBER z

    private static void numberSumWraps() {
        // The steps of kind 0, place 0 have the highest bit, so a greatest seed goes over 64 bits.
        for (long seed : new long[] {Long.MAX_VALUE, Long.MIN_VALUE, -1, 0, 1, 0x61C8864680B583EBL}) {
            dueNumber("z: the sum wraps", seed, 0, 0);
            dueNumber("z: the sum wraps", seed, 4, 15);
        }
    }

    private static void numberProductsWrap() {
        for (int kind = 0; kind <= 4; kind++) {
            for (int place = 0; place <= 15; place++) {
                dueNumber("z: the products wrap", 0, kind, place);
            }
        }
    }

    private static void numberZerosComeInBy30() {
        for (int kind = 0; kind <= 4; kind++) {
            dueNumber("z: zeros by 30", seedFromStart(unsigned(HIGHEST_BIT), kind, 3), kind, 3);
            dueNumber("z: zeros by 30", seedFromStart(unsigned(ALL_ONES), kind, 3), kind, 3);
        }
    }

    private static void numberZerosComeInBy27() {
        for (int kind = 0; kind <= 4; kind++) {
            BigInteger start = startFromFirst(unsigned(HIGHEST_BIT));
            dueNumber("z: zeros by 27", seedFromStart(start, kind, 2), kind, 2);
            start = startFromFirst(unsigned(ALL_ONES));
            dueNumber("z: zeros by 27", seedFromStart(start, kind, 2), kind, 2);
        }
    }

    private static void numberZerosComeInBy31() {
        for (int kind = 0; kind <= 4; kind++) {
            BigInteger start = startFromFirst(firstFromSecond(unsigned(HIGHEST_BIT)));
            dueNumber("z: zeros by 31", seedFromStart(start, kind, 1), kind, 1);
            start = startFromFirst(firstFromSecond(unsigned(ALL_ONES)));
            dueNumber("z: zeros by 31", seedFromStart(start, kind, 1), kind, 1);
        }
    }

    private static void numberOfNoughtIsNought() {
        // 0x61C8864680B583EB and the first steps make 2 to the 64: that wraps to 0, and 0 stays 0.
        PostDrawer x = drawn(0x61C8864680B583EBL, 0, 0);
        dueFacts("z: nought", x, 0, 0, 0, 0, 0);
    }

    // A DRAWING

    private static void drawingKindTooSmallOrTooLarge() {
        PostDrawer x = new PostDrawer(1);
        for (int kind : new int[] {-1, 5, -4, 1 << 26, 1 << 31, Integer.MAX_VALUE}) {
            due("a drawing of kind " + kind, x.draw(kind, 0), PostDrawer.OUTSIDE);
        }
        due("a drawing of kind 0", x.draw(0, 0), 1);
        due("a drawing of kind 4", x.draw(4, 0), 1);
    }

    private static void drawingSizeTooSmallOrTooLarge() {
        PostDrawer x = new PostDrawer(1);
        for (int size : new int[] {-1, 16, -16, 31, 32, Integer.MIN_VALUE, Integer.MAX_VALUE}) {
            due("a drawing of size " + size, x.draw(0, size), PostDrawer.OUTSIDE);
        }
        due("a drawing of size 0", x.draw(0, 0), 1);
        due("a drawing of size 15", x.draw(0, 15), 16);
    }

    private static void drawingHasSizeAndOneParts() {
        for (int size : new int[] {0, 1, 14, 15}) {
            PostDrawer x = drawn(9, 2, size);
            due("size " + size + ", the first part", x.part(0, 4) >= 0, true);
            due("size " + size + ", the last part", x.part(size, 4) >= 0, true);
            due("size " + size + ", before the first", x.part(-1, 4), PostDrawer.NONE);
            due("size " + size + ", behind the last", x.part(size + 1, 4), PostDrawer.NONE);
        }
    }

    // FACTS

    private static void factsOfTheGreatestNumber() {
        // 18446744073709551615; by 8: 72057594037927935; by 24: 1099511627775; by 40: 16777215
        for (int kind = 0; kind <= 4; kind++) {
            PostDrawer x = drawn(seedFor(ALL_ONES, kind, 15), kind, 15);
            dueFacts("z all ones", x, 15, 15, 935, 15, 1);
        }
    }

    private static void factsOfTheHighestBit() {
        // 9223372036854775808; by 8: 36028797018963968; by 24: 549755813888; by 40: 8388608
        PostDrawer x = drawn(seedFor(HIGHEST_BIT, 0, 0), 0, 0);
        dueFacts("z the highest bit", x, 0, 8, 968, 8, 0);
        // 9223372036854775900
        x = drawn(seedFor(HIGHEST_BIT + 92, 0, 0), 0, 0);
        due("z the highest bit and 92", x.part(0, 1), 0);
        x = drawn(seedFor(HIGHEST_BIT + 91, 0, 0), 0, 0);
        due("z the highest bit and 91", x.part(0, 1), 99);
    }

    private static void factsBelowTheHighestBit() {
        // 9223372036854775807; by 8: 36028797018963967; by 24: 549755813887; by 40: 8388607
        PostDrawer x = drawn(seedFor(BELOW_HIGHEST_BIT, 0, 0), 0, 0);
        dueFacts("z below the highest bit", x, 0, 7, 967, 7, 1);
    }

    private static void factsAtTheirModuli() {
        long[][] cases = {
            // z, what, fact
            {99, 1, 99}, {100, 1, 0}, {101, 1, 1},
            {999L << 8, 2, 999}, {1000L << 8, 2, 0}, {(1L << 8) - 1, 2, 0}, {1L << 8, 2, 1},
            {23L << 24, 3, 23}, {24L << 24, 3, 0}, {(1L << 24) - 1, 3, 0}, {1L << 24, 3, 1},
            {1L << 40, 4, 1}, {2L << 40, 4, 0}, {(1L << 40) - 1, 4, 0}, {3L << 40, 4, 1},
        };
        for (long[] each : cases) {
            PostDrawer x = drawn(seedFor(each[0], 4, 7), 4, 7);
            due("z " + each[0] + ", fact " + each[1], x.part(7, (int) each[1]), each[2]);
        }
    }

    private static void dueSame(long z, long other, boolean want) {
        for (int kind = 0; kind <= 4; kind++) {
            PostDrawer x = new PostDrawer(0);
            x.seed(seedFor(z, kind, 0));
            due("same of z " + z + " and " + other, x.same(seedFor(other, kind, 0), kind, 0), want);
        }
    }

    private static void factsEachTellSeedsApart() {
        dueSame(0, 1, false);           // 1, 0, 0, 0
        dueSame(0, 25L << 8, false);    // 0, 25, 0, 0
        dueSame(0, 125L << 24, false);  // 0, 0, 5, 0
        dueSame(0, 375L << 40, false);  // 0, 0, 0, 1
    }

    private static void factsAloneTellSeedsApart() {
        // 750 times 2 to the 40 adds to no fact, not even over the highest bit.
        long step = 750L << 40;
        dueSame(0, step, true);
        dueSame(ALL_ONES, ALL_ONES - step, true);
        dueSame(BELOW_HIGHEST_BIT, BELOW_HIGHEST_BIT + step, true);
        dueSame(HIGHEST_BIT, HIGHEST_BIT - step, true);
        dueSame(ALL_ONES, ALL_ONES + step, false);
    }

    // FAULTS

    private static int faultsOf(PostDrawer x, int size) {
        int faults = 0;
        for (int i = 0; i <= size; i++) {
            faults += x.part(i, 0);
            due("faultless(" + i + ")", x.faultless(i), x.part(i, 0) == 0);
        }
        return faults;
    }

    private static void faultsOfOneMachine() {
        // The half of one is cut to none, be it ever so great.
        for (long z : new long[] {ALL_ONES, HIGHEST_BIT, BELOW_HIGHEST_BIT, 0}) {
            due("faults of one machine", faultsOf(drawn(seedFor(z, 3, 0), 3, 0), 0), 0);
        }
    }

    private static void faultsHalfIsCut() {
        int[] faults = {0, 1, 1, 2, 2, 3, 3, 4, 4, 5, 5, 6, 6, 7, 7, 8};
        for (int size = 0; size <= 15; size++) {
            for (long seed : new long[] {0, -1, Long.MAX_VALUE, Long.MIN_VALUE}) {
                due("faults of size " + size, faultsOf(drawn(seed, 3, size), size), faults[size]);
            }
        }
    }

    private static void faultsGreatestWithoutSign() {
        for (int size = 1; size <= 15; size++) {
            for (int i = 0; i <= size; i++) {
                PostDrawer x = drawn(seedFor(ALL_ONES, 3, i), 3, size);
                due("the greatest z of " + size + " at " + i, x.part(i, 0), 1);
            }
        }
    }

    private static void faultsLeastWithoutSign() {
        for (int size = 0; size <= 15; size++) {
            for (int i = 0; i <= size; i++) {
                PostDrawer x = drawn(seedFor(0, 3, i), 3, size);
                due("the least z of " + size + " at " + i, x.part(i, 0), 0);
            }
        }
    }

    private static void faultsOverTheHighestBit() {
        // Of two machines, one just over or just under the highest bit: the other one's z tells which has faults.
        for (int i = 0; i <= 1; i++) {
            for (long z = -20; z < 20; z++) {
                long seed = seedFor(HIGHEST_BIT + z, 3, i);
                boolean isGreater = number(seed, 3, i).compareTo(number(seed, 3, 1 - i)) > 0;
                PostDrawer x = drawn(seed, 3, 1);
                due("the highest bit and " + z + " at " + i, x.part(i, 0), isGreater ? 1 : 0);
                due("the other of the highest bit and " + z, x.part(1 - i, 0), isGreater ? 0 : 1);
            }
        }
    }

    private static void faultsOfOtherKinds() {
        for (int kind : new int[] {0, 1, 2, 4}) {
            for (int i = 0; i <= 15; i++) {
                PostDrawer x = drawn(seedFor(ALL_ONES, kind, i), kind, 15);
                due("faults of kind " + kind, x.part(i, 0), 0);
                due("faultless(" + i + ") of kind " + kind, x.faultless(i), false);
            }
        }
    }

    // A SHEET

    private static int ground(int sign, int x, int y) {
        return SIGNS[sign].split(" ")[y / 4].charAt(x / 4) == '#' ? 40 : 200;
    }

    private static void sheetHasTwelveTimesTwentyPoints() {
        PostDrawer x = drawn(3, 1, 0);
        int points = 0;
        for (int y = -1; y <= 20; y++) {
            for (int column = -1; column <= 12; column++) {
                points += x.point(0, column, y) == PostDrawer.NONE ? 0 : 1;
            }
        }
        due("points of a sheet", points, 240);
        due("the upper left point", x.point(0, 0, 0) >= 0, true);
        due("the upper right point", x.point(0, 11, 0) >= 0, true);
        due("the lower left point", x.point(0, 0, 19) >= 0, true);
        due("the lower right point", x.point(0, 11, 19) >= 0, true);
    }

    private static void sheetShowsEverySign() {
        for (int sign = 0; sign <= 9; sign++) {
            int sheet = sign + 3;
            long seed = seedFor(sign, 1, sheet);
            PostDrawer x = drawn(seed, 1, 15);
            for (int y = 0; y < 20; y++) {
                for (int column = 0; column < 12; column++) {
                    int noise = modulo(number(seed, 5 + sheet, 12 * y + column), 0, 33) - 16;
                    due("sign " + sign + " at " + column + ", " + y,
                        x.point(sheet, column, y), ground(sign, column, y) + noise);
                }
            }
        }
    }

    private static void sheetSignIsTheLastDigit() {
        for (long z : new long[] {9, 10, 19, 90, 99, 100, 109, HIGHEST_BIT, BELOW_HIGHEST_BIT, ALL_ONES}) {
            int sign = unsigned(z).mod(BigInteger.TEN).intValue();
            PostDrawer x = drawn(seedFor(z, 1, 0), 1, 0);
            for (int y = 0; y < 20; y++) {
                for (int column = 0; column < 12; column++) {
                    due("ink of z " + z + " at " + column + ", " + y,
                        x.point(0, column, y) < 100, ground(sign, column, y) < 100);
                }
            }
        }
    }

    private static void dueNoise(long z, int sheet, int column, int y, int noise) {
        long seed = seedFor(z, 5 + sheet, 12 * y + column);
        PostDrawer x = drawn(seed, 1, sheet);
        int sign = modulo(number(seed, 1, sheet), 0, 10);
        due("noise of z " + z, x.point(sheet, column, y), ground(sign, column, y) + noise);
    }

    private static void noiseAtItsEdges() {
        dueNoise(0, 0, 0, 0, -16);
        dueNoise(16, 0, 5, 7, 0);
        dueNoise(32, 0, 0, 0, 16);
        dueNoise(33, 0, 0, 0, -16);
        dueNoise(65, 2, 11, 19, 16);
        dueNoise(66, 2, 11, 19, -16);
    }

    private static void noiseWithoutSign() {
        // 2 to the 10 is 1 modulo 33, so 2 to the 63 is 8 and 2 to the 64 is 16.
        for (int sheet = 0; sheet <= 15; sheet++) {
            dueNoise(HIGHEST_BIT, sheet, sheet % 12, sheet, 8 - 16);
            dueNoise(BELOW_HIGHEST_BIT, sheet, sheet % 12, sheet, 7 - 16);
            dueNoise(ALL_ONES, sheet, sheet % 12, sheet, 15 - 16);
            dueNoise(HIGHEST_BIT + 24, sheet, sheet % 12, sheet, 16);
            dueNoise(HIGHEST_BIT + 25, sheet, sheet % 12, sheet, -16);
        }
    }

    private static void noiseOfTheLastPointOfTheLastSheet() {
        dueNoise(32, 15, 11, 19, 16);
        dueNoise(ALL_ONES, 15, 0, 19, -1);
        dueNoise(ALL_ONES, 15, 11, 0, -1);
    }

    // VERDICTS

    private static void verdictNotToldDoesNotStay() {
        PostDrawer x = drawn(1, 0, 2);
        due("minimal() with nothing told", x.minimal(), false);
        due("shorter() with nothing told", x.shorter(), 3);
        x.verdict(3, true);
        x.verdict(5, true);
        x.verdict(6, true);
        due("minimal() with all but the whole told", x.minimal(), false);
        due("shorter() with all but the whole told", x.shorter(), 3);
        x.verdict(7, true);
        due("shorter() with the whole told", x.shorter(), 2);
        due("minimal() when no smaller one is told", x.minimal(), true);
    }

    private static void verdictToldFalseDoesNotStay() {
        PostDrawer x = drawn(1, 0, 1);
        x.verdict(3, false);
        due("minimal() when told false", x.minimal(), false);
        due("shorter() when told false", x.shorter(), 2);
        x.verdict(3, true);
        x.verdict(2, false);
        due("minimal() when the smaller is told false", x.minimal(), true);
        due("shorter() when the smaller is told false", x.shorter(), 2);
    }

    // SHORTER

    private static void shorterWhenItDoesNotStayForAll() {
        PostDrawer x = drawn(1, 0, 2);
        x.verdict(7, true);
        x.verdict(6, true);
        due("shorter() when it stays", x.shorter(), 2);
        x.verdict(7, false);
        due("shorter() when it stays no more", x.shorter(), 3);
        for (int i = 0; i <= 2; i++) {
            due("left(" + i + ") of all", x.left(i), i);
        }
    }

    private static void shorterKeepsTheLastOne() {
        PostDrawer one = drawn(1, 0, 0);
        one.verdict(1, true);
        due("shorter() of one part", one.shorter(), 1);
        due("left(0) of one part", one.left(0), 0);
        due("left(1) of one part", one.left(1), PostDrawer.NONE);
        for (int last = 0; last <= 15; last++) {
            PostDrawer x = drawn(1, 0, 15);
            int bits = 65535;
            x.verdict(bits, true);
            for (int i = 0; i <= 15; i++) {
                bits &= i == last ? bits : ~(1 << i);
                x.verdict(bits, true);
            }
            due("shorter() to part " + last, x.shorter(), 1);
            due("left(0), the last one", x.left(0), last);
            due("left(1) behind the last one", x.left(1), PostDrawer.NONE);
            due("minimal() of the last one", x.minimal(), true);
        }
    }

    private static void shorterGoesOnBehind() {
        PostDrawer x = drawn(1, 0, 2);
        x.verdict(7, true);
        x.verdict(5, true); // 1 goes, then 2 is tried before 0 is tried again
        x.verdict(4, true);
        x.verdict(1, true);
        due("shorter() goes on behind", x.shorter(), 1);
        due("left(0) when it went on behind", x.left(0), 0);
    }

    private static void shorterGoesThroughAgain() {
        PostDrawer x = drawn(1, 0, 15);
        for (int parts = 16; parts >= 1; parts--) {
            x.verdict(65535 >> (16 - parts), true);
        }
        due("shorter() by fifteen goings through", x.shorter(), 1);
        due("left(0) after fifteen goings through", x.left(0), 0);
    }

    private static void shorterEndsWhenNoneWasTakenOut() {
        PostDrawer x = drawn(1, 0, 3);
        x.verdict(15, true);
        x.verdict(14, true);
        x.verdict(8, true); // lacks two of those left, so it is not come to
        x.verdict(2, true);
        due("shorter() ends", x.shorter(), 3);
        due("left(0) at the end", x.left(0), 1);
        due("left(2) at the end", x.left(2), 3);
        due("minimal() at the end", x.minimal(), true);
    }
}
