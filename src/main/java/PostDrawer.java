/**
 * Parts of a post drawn by a seed, and smaller sets of parts that keep a verdict.
 *
 * What each call promises stands in the document DOC.md, by number.
 */
public final class PostDrawer {
    public static final int NONE = -1, OUTSIDE = -12, STATE = -13, ROOM = -14;

    private static final int SHEETS = 1;
    private static final int MACHINES = 3;
    private static final int LAST_KIND = 4;
    private static final int MOST_PARTS = 16;
    private static final int MOST_SETS = 100;

    private static final int WIDTH = 12;
    private static final int HEIGHT = 20;
    private static final int NOISE_KIND = 5;
    private static final int INK = 40;
    private static final int PAPER = 200;

    /** The signs 0 .. 9: five rows of three bits, the upper left one highest (bit 14). */
    private static final int[] SIGNS = {
        31599, 11415, 29671, 29647, 23497, 31183, 31215, 29257, 31727, 31695
    };

    private final Drawing drawn;
    private final Verdicts verdicts;
    // Two rows kept for comparing seeds, so that no call makes an object.
    private final Drawing ours;
    private final Drawing theirs;
    private long nextSeed;
    private int leftBits;

    /** Promise 1. */
    public PostDrawer(int seed) {
        nextSeed = seed;
        leftBits = 0;
        drawn = new Drawing();
        ours = new Drawing();
        theirs = new Drawing();
        verdicts = new Verdicts();
    }

    /** Promise 2. */
    public long seed(long s) {
        long before = nextSeed;
        nextSeed = s;
        return before;
    }

    /** Promise 3. */
    public int draw(int kind, int size) {
        if (!isDrawable(kind, size)) {
            return OUTSIDE;
        }
        drawn.fill(nextSeed, kind, size + 1);
        leftBits = drawn.allBits();
        verdicts.forget();
        return drawn.count;
    }

    /** Promise 4. */
    public int part(int i, int what) {
        if (!drawn.has(i)) {
            return NONE;
        }
        if (what < 0 || what > 4) {
            return OUTSIDE;
        }
        if (what == 0) {
            return drawn.hasFaults(i) ? 1 : 0;
        }
        return drawn.fact(i, what);
    }

    /** Promise 5. */
    public int point(int sheet, int x, int y) {
        if (drawn.kind != SHEETS || !drawn.has(sheet)) {
            return NONE;
        }
        if (x < 0 || x >= WIDTH || y < 0 || y >= HEIGHT) {
            return NONE;
        }
        int ground = isInked(drawn.fact(sheet, 1) % 10, x, y) ? INK : PAPER;
        return ground + noise(drawn.seed, sheet, x, y);
    }

    /** Promise 6. */
    public int verdict(int bits, boolean stays) {
        if (drawn.isEmpty()) {
            return STATE;
        }
        if (bits == 0 || (bits & ~drawn.allBits()) != 0) {
            return OUTSIDE;
        }
        return verdicts.tell(bits, stays) ? verdicts.count : ROOM;
    }

    /** Promise 7. */
    public int shorter() {
        if (drawn.isEmpty()) {
            return STATE;
        }
        leftBits = drawn.allBits();
        if (verdicts.stayFor(leftBits)) {
            leaveOutAll();
        }
        return Integer.bitCount(leftBits);
    }

    /** Promise 8. */
    public int left(int i) {
        int before = 0;
        for (int part = 0; part < MOST_PARTS; part++) {
            if ((leftBits & (1 << part)) != 0) {
                if (before == i) {
                    return part;
                }
                before++;
            }
        }
        return NONE;
    }

    /** Promise 9. */
    public boolean minimal() {
        if (drawn.isEmpty() || !verdicts.stayFor(leftBits)) {
            return false;
        }
        for (int part = 0; part < MOST_PARTS; part++) {
            if (canLeaveOut(part)) {
                return false;
            }
        }
        return true;
    }

    /** Promise 10. */
    public boolean faultless(int machine) {
        return drawn.kind == MACHINES && drawn.has(machine) && !drawn.hasFaults(machine);
    }

    /** Promise 11. */
    public boolean same(long other, int kind, int size) {
        if (!isDrawable(kind, size)) {
            return false;
        }
        ours.fill(nextSeed, kind, size + 1);
        theirs.fill(other, kind, size + 1);
        return haveSameParts(ours, theirs);
    }

    private static boolean isDrawable(int kind, int size) {
        return kind >= 0 && kind <= LAST_KIND && size >= 0 && size < MOST_PARTS;
    }

    /** Every going through but the last takes a part out, so there are no more of them than parts. */
    private void leaveOutAll() {
        for (int round = 0; round < MOST_PARTS; round++) {
            int before = leftBits;
            goThrough();
            if (leftBits == before) {
                return;
            }
        }
    }

    private void goThrough() {
        for (int part = 0; part < MOST_PARTS; part++) {
            if (canLeaveOut(part)) {
                leftBits &= ~(1 << part);
            }
        }
    }

    /** The last part is safe, as a verdict on the empty set is never told and so never stays. */
    private boolean canLeaveOut(int part) {
        int bit = 1 << part;
        return (leftBits & bit) != 0 && verdicts.stayFor(leftBits & ~bit);
    }

    private static boolean isInked(int sign, int x, int y) {
        if (sign < 0 || sign >= SIGNS.length) {
            return false;
        }
        int place = 3 * (y / 4) + x / 4;
        return (SIGNS[sign] >> (14 - place) & 1) != 0;
    }

    private static int noise(long seed, int sheet, int x, int y) {
        long z = number(seed, NOISE_KIND + sheet, WIDTH * y + x);
        // % would take z with its sign, so z is halved first and its last bit comes back after.
        long rest = (2 * ((z >>> 1) % 33) + (z & 1)) % 33;
        return (int) rest - 16;
    }

    /** THE NUMBER z of the document. */
    private static long number(long seed, int kind, int place) {
        long z = seed + (1L + place + 64L * kind) * 0x9E3779B97F4A7C15L;
        z = (z ^ (z >>> 30)) * 0xBF58476D1CE4E5B9L;
        z = (z ^ (z >>> 27)) * 0x94D049BB133111EBL;
        return z ^ (z >>> 31);
    }

    /** Facts may agree where the numbers do not, so it is the facts that are compared. */
    private static boolean haveSameParts(Drawing a, Drawing b) {
        for (int i = 0; i < a.count; i++) {
            for (int what = 1; what <= 4; what++) {
                if (a.fact(i, what) != b.fact(i, what)) {
                    return false;
                }
            }
        }
        return a.faultBits == b.faultBits;
    }

    /** The parts that one seed draws of one kind; empty until it is filled. */
    private static final class Drawing {
        private final long[] numbers = new long[MOST_PARTS];
        private long seed = 0;
        private int kind = NONE;
        private int count = 0;
        private int faultBits = 0;

        void fill(long newSeed, int newKind, int newCount) {
            seed = newSeed;
            kind = newKind;
            count = Math.max(0, Math.min(newCount, MOST_PARTS));
            for (int i = 0; i < count; i++) {
                numbers[i] = number(seed, kind, i);
            }
            faultBits = kind == MACHINES ? greaterHalf() : 0;
        }

        boolean isEmpty() {
            return count == 0;
        }

        boolean has(int i) {
            return i >= 0 && i < count;
        }

        int allBits() {
            return (1 << count) - 1;
        }

        boolean hasFaults(int i) {
            return has(i) && (faultBits >> i & 1) != 0;
        }

        /** NONE where there is no such part or fact. */
        int fact(int i, int what) {
            if (!has(i)) {
                return NONE;
            }
            long z = numbers[i];
            switch (what) {
                case 1:
                    // % would take z with its sign, so z is halved first and its last bit comes back after.
                    return (int) (2 * ((z >>> 1) % 50) + (z & 1));
                case 2:
                    return (int) ((z >>> 8) % 1000);
                case 3:
                    return (int) ((z >>> 24) % 24);
                case 4:
                    return (int) ((z >>> 40) % 2);
                default:
                    return NONE;
            }
        }

        private int greaterHalf() {
            int bits = 0;
            for (int i = 0; i < count; i++) {
                if (countAbove(i) < count / 2) {
                    bits |= 1 << i;
                }
            }
            return bits;
        }

        private int countAbove(int i) {
            int above = 0;
            for (int j = 0; j < count; j++) {
                if (isAbove(j, i)) {
                    above++;
                }
            }
            return above;
        }

        private boolean isAbove(int j, int i) {
            if (!has(j) || !has(i)) {
                return false;
            }
            // Turning the highest bit makes the order with sign the one without.
            long a = numbers[j] ^ Long.MIN_VALUE;
            long b = numbers[i] ^ Long.MIN_VALUE;
            return a > b || a == b && j > i;
        }
    }

    /** The sets told, each with whether the verdict stays for it. */
    private static final class Verdicts {
        private final int[] sets = new int[MOST_SETS];
        private final boolean[] stays = new boolean[MOST_SETS];
        private int count = 0;

        void forget() {
            count = 0;
        }

        /** False where there is no room for one more set. */
        boolean tell(int bits, boolean stay) {
            int at = find(bits);
            if (at == count) {
                if (count >= MOST_SETS) {
                    return false;
                }
                sets[at] = bits;
                count++;
            }
            stays[at] = stay;
            return true;
        }

        boolean stayFor(int bits) {
            int at = find(bits);
            return at < count && stays[at];
        }

        /** Where the set stands, or the count if it was not told. */
        private int find(int bits) {
            for (int i = 0; i < count; i++) {
                if (sets[i] == bits) {
                    return i;
                }
            }
            return count;
        }
    }
}
