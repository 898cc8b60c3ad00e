import java.math.BigInteger;
import java.util.ArrayList;
import java.util.LinkedHashMap;
import java.util.List;
import java.util.Map;
import java.util.Random;
import java.util.TreeSet;

/**
 * Long runs of calls, each answered by PostDrawer and by a second writing of the document that
 * counts in whole numbers without bounds and holds sets as sets, so that they share no trick.
 */
public final class ModelTest {
    private static final BigInteger WRAP = BigInteger.ONE.shiftLeft(64);
    private static final int RUNS = 400;
    private static final int CALLS = 512;

    private static final class Model {
        private static final String[][] SIGNS = {
            {"###", "#.#", "#.#", "#.#", "###"},
            {".#.", "##.", ".#.", ".#.", "###"},
            {"###", "..#", "###", "#..", "###"},
            {"###", "..#", "###", "..#", "###"},
            {"#.#", "#.#", "###", "..#", "..#"},
            {"###", "#..", "###", "..#", "###"},
            {"###", "#..", "###", "#.#", "###"},
            {"###", "..#", "..#", "..#", "..#"},
            {"###", "#.#", "###", "#.#", "###"},
            {"###", "#.#", "###", "..#", "###"},
        };
        private long seed;
        private long drawnSeed;
        private int kind = -1;
        private List<BigInteger> parts = new ArrayList<>();
        private TreeSet<Integer> left = new TreeSet<>();
        private final Map<TreeSet<Integer>, Boolean> told = new LinkedHashMap<>();

        Model(int seed) {
            this.seed = seed;
        }

        static BigInteger step(BigInteger z, int shift, String factor) {
            return z.xor(z.shiftRight(shift)).multiply(new BigInteger(factor, 16)).mod(WRAP);
        }

        static BigInteger number(long seed, int kind, int place) {
            BigInteger z = BigInteger.valueOf(1 + place + 64 * kind).multiply(new BigInteger("9E3779B97F4A7C15", 16));
            z = BigInteger.valueOf(seed).add(z).mod(WRAP);
            z = step(step(z, 30, "BF58476D1CE4E5B9"), 27, "94D049BB133111EB");
            return z.xor(z.shiftRight(31));
        }

        static List<BigInteger> numbers(long seed, int kind, int size) {
            List<BigInteger> all = new ArrayList<>();
            for (int i = 0; i <= size; i++) {
                all.add(number(seed, kind, i));
            }
            return all;
        }

        static int modulo(BigInteger z, int shift, int m) {
            return z.shiftRight(shift).mod(BigInteger.valueOf(m)).intValue();
        }

        static List<Integer> facts(List<BigInteger> all, int kind, int i) {
            List<BigInteger> order = new ArrayList<>(all);
            order.sort(null);
            int rank = order.indexOf(all.get(i));
            boolean faults = kind == 3 && rank >= all.size() - all.size() / 2;
            BigInteger z = all.get(i);
            return List.of(faults ? 1 : 0, modulo(z, 0, 100), modulo(z, 8, 1000), modulo(z, 24, 24), modulo(z, 40, 2));
        }

        static boolean drawable(int kind, int size) {
            return 0 <= kind && kind <= 4 && 0 <= size && size <= 15;
        }

        long seed(long s) {
            long before = seed;
            seed = s;
            return before;
        }

        int draw(int kind, int size) {
            if (!drawable(kind, size)) {
                return -12;
            }
            this.kind = kind;
            drawnSeed = seed;
            parts = numbers(seed, kind, size);
            left = all();
            told.clear();
            return parts.size();
        }

        TreeSet<Integer> all() {
            TreeSet<Integer> all = new TreeSet<>();
            for (int i = 0; i < parts.size(); i++) {
                all.add(i);
            }
            return all;
        }

        boolean drawnPart(int i) {
            return 0 <= i && i < parts.size();
        }

        int part(int i, int what) {
            if (!drawnPart(i)) {
                return -1;
            }
            return 0 <= what && what <= 4 ? facts(parts, kind, i).get(what) : -12;
        }

        int point(int sheet, int x, int y) {
            if (kind != 1 || !drawnPart(sheet) || x < 0 || x > 11 || y < 0 || y > 19) {
                return -1;
            }
            int sign = part(sheet, 1) % 10;
            int ground = SIGNS[sign][y / 4].charAt(x / 4) == '#' ? 40 : 200;
            return ground + modulo(number(drawnSeed, 5 + sheet, 12 * y + x), 0, 33) - 16;
        }

        int verdict(int bits, boolean stays) {
            if (kind < 0) {
                return -13;
            }
            TreeSet<Integer> set = new TreeSet<>();
            for (int i = 0; i < 32; i++) {
                if ((bits >>> i & 1) == 1) {
                    set.add(i);
                }
            }
            if (set.isEmpty() || !all().containsAll(set)) {
                return -12;
            }
            if (!told.containsKey(set) && told.size() == 100) {
                return -14;
            }
            told.put(set, stays);
            return told.size();
        }

        boolean stays(TreeSet<Integer> set) {
            return !set.isEmpty() && told.getOrDefault(set, false);
        }

        TreeSet<Integer> without(int part) {
            TreeSet<Integer> set = new TreeSet<>(left);
            set.remove(part);
            return set;
        }

        int shorter() {
            if (kind < 0) {
                return -13;
            }
            left = all();
            boolean again = stays(left);
            while (again) {
                again = false;
                for (int part : new ArrayList<>(left)) {
                    if (stays(without(part))) {
                        left = without(part);
                        again = true;
                    }
                }
            }
            return left.size();
        }

        int left(int i) {
            return 0 <= i && i < left.size() ? new ArrayList<>(left).get(i) : -1;
        }

        boolean minimal() {
            boolean minimal = kind >= 0 && stays(left);
            for (int part : left) {
                minimal = minimal && !stays(without(part));
            }
            return minimal;
        }

        boolean faultless(int machine) {
            return kind == 3 && drawnPart(machine) && part(machine, 0) == 0;
        }

        boolean same(long other, int kind, int size) {
            if (!drawable(kind, size)) {
                return false;
            }
            List<BigInteger> ours = numbers(seed, kind, size);
            List<BigInteger> theirs = numbers(other, kind, size);
            for (int i = 0; i <= size; i++) {
                if (!facts(ours, kind, i).equals(facts(theirs, kind, i))) {
                    return false;
                }
            }
            return true;
        }
    }

    private static int wrong = 0;

    private static void due(int run, String call, long got, long want) {
        if (got != want) {
            wrong++;
            System.out.println("run " + run + ": " + call + " answered " + got + ", due is " + want);
        }
    }

    private static int strange(Random random, int low, int high) {
        int[] edges = {Integer.MIN_VALUE, Integer.MAX_VALUE, low - 1, high + 1};
        return random.nextInt(12) == 0 ? edges[random.nextInt(4)] : low + random.nextInt(high - low + 1);
    }

    private static int someBits(Random random, Model model) {
        int all = (1 << model.parts.size()) - 1;
        // Sets near to the whole or to what is left, so that shorter has something to go through.
        switch (random.nextInt(5)) {
            case 0:
                return all;
            case 1:
                return all & ~(1 << random.nextInt(16));
            case 2:
            case 3:
                int bits = 0;
                for (int part : model.left) {
                    bits |= 1 << part;
                }
                return bits & ~(1 << random.nextInt(16));
            default:
                return random.nextInt(10) == 0 ? random.nextInt() : random.nextInt(1 << 16) & all;
        }
    }

    private static long someSeed(Random random) {
        return random.nextBoolean() ? random.nextLong() : random.nextInt(5) - 2;
    }

    private static void call(int run, Random random, PostDrawer x, Model m) {
        switch (random.nextInt(17)) {
            case 0 -> {
                long s = someSeed(random);
                due(run, "seed(" + s + ")", x.seed(s), m.seed(s));
            }
            case 1 -> {
                int kind = strange(random, 0, 4);
                int size = random.nextBoolean() ? random.nextInt(5) : strange(random, 0, 15);
                // Seldom, so that verdicts can gather between two drawings.
                if (m.kind < 0 || random.nextInt(1 + run % 20) == 0) {
                    due(run, "draw(" + kind + ", " + size + ")", x.draw(kind, size), m.draw(kind, size));
                }
            }
            case 2, 3, 4 -> {
                int i = strange(random, 0, 15);
                int what = strange(random, 0, 4);
                due(run, "part(" + i + ", " + what + ")", x.part(i, what), m.part(i, what));
            }
            case 5, 6, 7 -> {
                int sheet = strange(random, 0, 15);
                int px = strange(random, 0, 11);
                int py = strange(random, 0, 19);
                due(run, "point(" + sheet + ", " + px + ", " + py + ")", x.point(sheet, px, py), m.point(sheet, px, py));
            }
            case 8, 9, 10, 11 -> {
                int bits = someBits(random, m);
                boolean stays = random.nextInt(4) != 0;
                due(run, "verdict(" + bits + ", " + stays + ")", x.verdict(bits, stays), m.verdict(bits, stays));
            }
            case 12 -> due(run, "shorter()", x.shorter(), m.shorter());
            case 13 -> {
                int i = strange(random, 0, 15);
                due(run, "left(" + i + ")", x.left(i), m.left(i));
            }
            case 14 -> due(run, "minimal()", x.minimal() ? 1 : 0, m.minimal() ? 1 : 0);
            case 15 -> {
                int i = strange(random, 0, 15);
                due(run, "faultless(" + i + ")", x.faultless(i) ? 1 : 0, m.faultless(i) ? 1 : 0);
            }
            default -> {
                long other = random.nextBoolean() ? m.seed : someSeed(random);
                int kind = strange(random, 0, 4);
                int size = strange(random, 0, 15);
                due(run, "same(" + other + ", " + kind + ", " + size + ")",
                    x.same(other, kind, size) ? 1 : 0, m.same(other, kind, size) ? 1 : 0);
            }
        }
    }

    private static void wholeSheets(int run) {
        for (int sheet = 0; sheet < 16; sheet++) {
            // A new object for each sheet: all of them would be more than its 512 calls.
            PostDrawer x = new PostDrawer(run);
            Model m = new Model(run);
            x.draw(1, 15);
            m.draw(1, 15);
            for (int point = 0; point < 240; point++) {
                due(run, "point " + point + " of sheet " + sheet,
                    x.point(sheet, point % 12, point / 12), m.point(sheet, point % 12, point / 12));
            }
        }
    }

    public static void main(String[] args) {
        Random random = new Random(20261115);
        for (int run = 0; run < RUNS; run++) {
            int seed = random.nextInt();
            PostDrawer x = new PostDrawer(seed);
            Model m = new Model(seed);
            for (int i = 0; i < CALLS; i++) {
                call(run, random, x, m);
            }
        }
        wholeSheets(-3);
        wholeSheets(4);
        System.out.println(wrong == 0 ? "all answers are the model's" : wrong + " answers are not the model's");
        if (wrong != 0) {
            System.exit(1);
        }
    }
}
