import java.util.ArrayList;
import java.util.LinkedHashMap;
import java.util.List;
import java.util.Map;
import java.util.function.Consumer;
import java.util.function.Supplier;
import java.util.function.ToLongFunction;

/**
 * A refused call changes nothing that later calls show.
 *
 * Two objects are brought to the same state; one of them gets a call that is refused (or that only
 * asks); then both get the same calls, and every answer must be the same.
 */
public final class RefusedTest {
    private static final int NONE = -1, OUTSIDE = -12, STATE = -13, ROOM = -14, FALSE = 0;
    private static final int MIN = Integer.MIN_VALUE, MAX = Integer.MAX_VALUE;

    private record Refused(String name, int due, ToLongFunction<PostDrawer> call) { }

    private static final Map<String, Supplier<PostDrawer>> STATES = new LinkedHashMap<>();
    private static final List<Consumer<Probe>> LATER = new ArrayList<>();
    private static int wrong = 0;

    /** The answers of the calls made through it, at most as many as the document lets an object have. */
    private static final class Probe {
        private final PostDrawer x;
        private final List<String> answers = new ArrayList<>();

        Probe(PostDrawer x) {
            this.x = x;
        }

        void add(String call, Object answer) {
            answers.add(call + " " + answer);
        }
    }

    public static void main(String[] args) {
        states();
        laterCalls();
        int pairs = 0;
        for (String state : STATES.keySet()) {
            for (Refused refused : refusedIn(state)) {
                for (Consumer<Probe> later : LATER) {
                    changesNothing(state, refused, later);
                    pairs++;
                }
            }
        }
        if (wrong != 0) {
            System.out.println(wrong + " refused calls show");
            System.exit(1);
        }
        System.out.println("no refused call shows, in " + pairs + " pairs of runs");
    }

    private static void changesNothing(String state, Refused refused, Consumer<Probe> later) {
        Probe without = new Probe(STATES.get(state).get());
        Probe with = new Probe(STATES.get(state).get());
        long got = refused.call().applyAsLong(with.x);
        if (got != refused.due()) {
            wrong++;
            System.out.println(state + ": " + refused.name() + " answered " + got + ", due is " + refused.due());
        }
        later.accept(without);
        later.accept(with);
        for (int i = 0; i < without.answers.size(); i++) {
            if (!without.answers.get(i).equals(with.answers.get(i))) {
                wrong++;
                System.out.println(state + ": after " + refused.name() + ": " + with.answers.get(i)
                    + ", due is " + without.answers.get(i));
                return;
            }
        }
    }

    private static void states() {
        STATES.put("new", () -> new PostDrawer(7));
        STATES.put("books", () -> drawn(0));
        STATES.put("sheets", () -> drawn(1));
        STATES.put("items", () -> drawn(2));
        STATES.put("machines", () -> drawn(3));
        STATES.put("rounds", () -> drawn(4));
        STATES.put("full", RefusedTest::full);
    }

    /** Six parts of which four are left, three verdicts, and another seed for the next drawing. */
    private static PostDrawer drawn(int kind) {
        PostDrawer x = new PostDrawer(7);
        x.draw(kind, 5);
        x.verdict(63, true);
        x.verdict(62, true);
        x.verdict(54, true);
        x.shorter();
        x.seed(8);
        return x;
    }

    /** A hundred sets told, among them all seven parts, two of which go out. */
    private static PostDrawer full() {
        PostDrawer x = new PostDrawer(7);
        x.draw(1, 6);
        for (int bits = 28; bits <= 127; bits++) {
            x.verdict(bits, bits == 127 || bits == 126 || bits == 122);
        }
        x.shorter();
        x.seed(8);
        return x;
    }

    private static List<Refused> refusedIn(String state) {
        List<Refused> all = new ArrayList<>();
        for (int wrongOne : new int[] {MIN, -1, 16, MAX}) {
            all.add(new Refused("draw(3, " + wrongOne + ")", OUTSIDE, x -> x.draw(3, wrongOne)));
            all.add(new Refused("draw(" + wrongOne + ", 0)", OUTSIDE, x -> x.draw(wrongOne, 0)));
            all.add(new Refused("part(" + wrongOne + ", 1)", NONE, x -> x.part(wrongOne, 1)));
            all.add(new Refused("point(" + wrongOne + ", 0, 0)", NONE, x -> x.point(wrongOne, 0, 0)));
            all.add(new Refused("point(0, " + wrongOne + ", 0)", NONE, x -> x.point(0, wrongOne, 0)));
            all.add(new Refused("left(" + wrongOne + ")", NONE, x -> x.left(wrongOne)));
            all.add(new Refused("faultless(" + wrongOne + ")", FALSE, x -> x.faultless(wrongOne) ? 1 : 0));
            all.add(new Refused("same(8, 0, " + wrongOne + ")", FALSE, x -> x.same(8, 0, wrongOne) ? 1 : 0));
            all.add(new Refused("same(8, " + wrongOne + ", 0)", FALSE, x -> x.same(8, wrongOne, 0) ? 1 : 0));
        }
        all.add(new Refused("draw(5, 3)", OUTSIDE, x -> x.draw(5, 3)));
        all.add(new Refused("point(0, 0, 20)", NONE, x -> x.point(0, 0, 20)));
        all.add(new Refused("same(9, 3, 15)", FALSE, x -> x.same(9, 3, 15) ? 1 : 0));
        if (state.equals("new")) {
            all.add(new Refused("verdict(1, true)", STATE, x -> x.verdict(1, true)));
            all.add(new Refused("verdict(0, false)", STATE, x -> x.verdict(0, false)));
            all.add(new Refused("shorter()", STATE, x -> x.shorter()));
            all.add(new Refused("minimal()", FALSE, x -> x.minimal() ? 1 : 0));
            all.add(new Refused("left(0)", NONE, x -> x.left(0)));
            all.add(new Refused("part(0, 5)", NONE, x -> x.part(0, 5)));
            return all;
        }
        all.add(new Refused("part(0, 5)", OUTSIDE, x -> x.part(0, 5)));
        all.add(new Refused("part(0, -1)", OUTSIDE, x -> x.part(0, -1)));
        for (boolean stays : new boolean[] {true, false}) {
            all.add(new Refused("verdict(0, " + stays + ")", OUTSIDE, x -> x.verdict(0, stays)));
            all.add(new Refused("verdict(-1, " + stays + ")", OUTSIDE, x -> x.verdict(-1, stays)));
            all.add(new Refused("verdict(128, " + stays + ")", OUTSIDE, x -> x.verdict(128, stays)));
            all.add(new Refused("verdict(128 + 54, " + stays + ")", OUTSIDE, x -> x.verdict(128 + 54, stays)));
        }
        if (state.equals("full")) {
            all.add(new Refused("verdict(27, true)", ROOM, x -> x.verdict(27, true)));
            all.add(new Refused("verdict(4, true)", ROOM, x -> x.verdict(4, true)));
            all.add(new Refused("verdict(4, false)", ROOM, x -> x.verdict(4, false)));
        }
        return all;
    }

    private static void laterCalls() {
        LATER.add(RefusedTest::askParts);
        LATER.add(RefusedTest::askPoints);
        LATER.add(RefusedTest::askLeftAndVerdicts);
        LATER.add(RefusedTest::askSeed);
        LATER.add(RefusedTest::askNextDrawing);
        for (int kind = 0; kind <= 4; kind++) {
            int each = kind;
            LATER.add(probe -> askSame(probe, each));
        }
    }

    private static void askParts(Probe probe) {
        for (int i = 0; i <= 16; i++) {
            for (int what = 0; what <= 4; what++) {
                probe.add("part(" + i + ", " + what + ")", probe.x.part(i, what));
            }
            probe.add("faultless(" + i + ")", probe.x.faultless(i));
        }
    }

    private static void askPoints(Probe probe) {
        for (int sheet = 0; sheet <= 7; sheet++) {
            for (int n = 0; n <= 20; n++) {
                probe.add("point(" + sheet + ", " + n % 12 + ", " + n + ")", probe.x.point(sheet, n % 12, n));
            }
        }
    }

    private static void askLeftAndVerdicts(Probe probe) {
        PostDrawer x = probe.x;
        askLeft(probe);
        probe.add("minimal()", x.minimal());
        probe.add("shorter()", x.shorter());
        askLeft(probe);
        // Told sets are taken again at the same count, others count one more or find no room.
        for (int bits : new int[] {127, 63, 62, 54, 28, 27, 4, 1}) {
            probe.add("verdict(" + bits + ", true)", x.verdict(bits, true));
            probe.add("minimal()", x.minimal());
            probe.add("shorter()", x.shorter());
            askLeft(probe);
        }
    }

    private static void askLeft(Probe probe) {
        for (int i = 0; i <= 7; i++) {
            probe.add("left(" + i + ")", probe.x.left(i));
        }
    }

    private static void askSeed(Probe probe) {
        probe.add("seed(9)", probe.x.seed(9));
        probe.add("seed(10)", probe.x.seed(10));
    }

    private static void askNextDrawing(Probe probe) {
        for (int kind : new int[] {3, 1}) {
            probe.add("draw(" + kind + ", 7)", probe.x.draw(kind, 7));
            probe.add("minimal()", probe.x.minimal());
            askLeft(probe);
            askParts(probe);
        }
        probe.add("point(7, 11, 19)", probe.x.point(7, 11, 19));
        probe.add("verdict(255, true)", probe.x.verdict(255, true));
        probe.add("shorter()", probe.x.shorter());
    }

    private static void askSame(Probe probe, int kind) {
        for (int size = 0; size <= 15; size++) {
            probe.add("same(7, " + kind + ", " + size + ")", probe.x.same(7, kind, size));
            probe.add("same(8, " + kind + ", " + size + ")", probe.x.same(8, kind, size));
        }
    }
}
