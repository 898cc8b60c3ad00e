/** Each promise of the document by its number: ordinary inputs, the edges that it names, wrong inputs. */
public final class PromisesTest {
    private static final int[] STRANGE = {
        Integer.MIN_VALUE, Integer.MIN_VALUE + 1, -65, -2, -1, 16, 17, 31, 32, 33, 64, 65, 1 << 20, Integer.MAX_VALUE
    };
    private static int wrong = 0;

    private static void due(String call, long got, long want) {
        if (got != want) {
            wrong++;
            System.out.println(call + " answered " + got + ", due is " + want);
        }
    }

    private static void due(String call, boolean got, boolean want) {
        due(call, got ? 1 : 0, want ? 1 : 0);
    }

    public static void main(String[] args) {
        promise1NewObject();
        promise1SeedKeepsItsSign();
        promise2Seed();
        promise3Draw();
        promise3DrawForgets();
        promise3WrongDrawChangesNothing();
        promise4Part();
        promise4Faults();
        promise5Point();
        promise5PointKeepsTheDrawnSeed();
        promise6Verdict();
        promise6Room();
        promise7Shorter();
        promise7GoesThroughAgain();
        promise7AllSixteen();
        promise8Left();
        promise9Minimal();
        promise10Faultless();
        promise11Same();
        promise11ChangesNothing();
        System.out.println(wrong == 0 ? "all promises hold" : wrong + " answers are not as due");
        if (wrong != 0) {
            System.exit(1);
        }
    }

    private static void promise1NewObject() {
        PostDrawer x = new PostDrawer(5);
        due("1: part(0, 1)", x.part(0, 1), PostDrawer.NONE);
        due("1: point(0, 0, 0)", x.point(0, 0, 0), PostDrawer.NONE);
        due("1: verdict(1, true)", x.verdict(1, true), PostDrawer.STATE);
        due("1: verdict(0, true)", x.verdict(0, true), PostDrawer.STATE);
        due("1: shorter()", x.shorter(), PostDrawer.STATE);
        due("1: left(0)", x.left(0), PostDrawer.NONE);
        due("1: minimal()", x.minimal(), false);
        due("1: faultless(0)", x.faultless(0), false);
        due("1: seed(6)", x.seed(6), 5);
    }

    private static void promise1SeedKeepsItsSign() {
        for (int seed : new int[] {0, 1, -1, Integer.MAX_VALUE, Integer.MIN_VALUE}) {
            PostDrawer x = new PostDrawer(seed);
            due("1: same(" + seed + ", 2, 15)", x.same((long) seed, 2, 15), true);
            due("1: seed(0) after " + seed, x.seed(0), (long) seed);
        }
    }

    private static void promise2Seed() {
        PostDrawer x = new PostDrawer(3);
        due("2: seed(MAX)", x.seed(Long.MAX_VALUE), 3);
        due("2: seed(MIN)", x.seed(Long.MIN_VALUE), Long.MAX_VALUE);
        due("2: seed(7)", x.seed(7), Long.MIN_VALUE);
        x.draw(3, 4);
        due("2: part(0, 2) of seed 7", x.part(0, 2), 697);
        due("2: seed(8)", x.seed(8), 7);
        due("2: part(0, 2) stays", x.part(0, 2), 697);
        due("2: faultless(1) stays", x.faultless(1), true);
        due("2: seed(7) again", x.seed(7), 8);
        due("2: seed(7) once more", x.seed(7), 7);
    }

    private static void promise3Draw() {
        PostDrawer x = new PostDrawer(3);
        for (int kind = 0; kind <= 4; kind++) {
            for (int size = 0; size <= 15; size++) {
                due("3: draw(" + kind + ", " + size + ")", x.draw(kind, size), size + 1);
                due("3: left(size)", x.left(size), size);
                due("3: left(size + 1)", x.left(size + 1), PostDrawer.NONE);
            }
        }
        for (int strange : STRANGE) {
            due("3: draw(0, " + strange + ")", x.draw(0, strange), PostDrawer.OUTSIDE);
            due("3: draw(" + strange + ", 0)", x.draw(strange, 0), PostDrawer.OUTSIDE);
        }
        due("3: draw(5, 0)", x.draw(5, 0), PostDrawer.OUTSIDE);
        due("3: draw(4, 16)", x.draw(4, 16), PostDrawer.OUTSIDE);
    }

    private static void promise3DrawForgets() {
        PostDrawer x = new PostDrawer(3);
        x.draw(0, 1);
        x.verdict(3, true);
        x.verdict(1, true);
        due("3: shorter()", x.shorter(), 1);
        due("3: draw(0, 1) again", x.draw(0, 1), 2);
        due("3: left(1)", x.left(1), 1);
        due("3: shorter() without verdicts", x.shorter(), 2);
        due("3: verdict(2, true) is the first", x.verdict(2, true), 1);
        due("3: verdict(3, true) is the second", x.verdict(3, true), 2);
        due("3: shorter() by the new ones", x.shorter(), 1);
        due("3: left(0) by the new ones", x.left(0), 1);
    }

    private static void promise3WrongDrawChangesNothing() {
        PostDrawer x = new PostDrawer(7);
        x.draw(3, 4);
        x.verdict(31, true);
        x.verdict(30, true);
        x.shorter();
        x.seed(9);
        due("3: draw(5, 4)", x.draw(5, 4), PostDrawer.OUTSIDE);
        due("3: draw(3, -1)", x.draw(3, -1), PostDrawer.OUTSIDE);
        due("3: part(0, 2) as before", x.part(0, 2), 697);
        due("3: left(0) as before", x.left(0), 1);
        due("3: left(4) as before", x.left(4), PostDrawer.NONE);
        due("3: verdict(1, false)", x.verdict(1, false), 3);
    }

    private static void promise4Part() {
        PostDrawer x = new PostDrawer(7);
        x.draw(3, 4);
        int[][] parts = {
            {1, 49, 697, 15, 0}, {0, 64, 545, 13, 1}, {0, 41, 134, 21, 0}, {0, 31, 879, 12, 0}, {1, 57, 919, 15, 0}
        };
        for (int i = 0; i < parts.length; i++) {
            for (int what = 0; what <= 4; what++) {
                due("4: part(" + i + ", " + what + ")", x.part(i, what), parts[i][what]);
            }
        }
        due("4: part(5, 1)", x.part(5, 1), PostDrawer.NONE);
        due("4: part(5, 5)", x.part(5, 5), PostDrawer.NONE);
        due("4: part(4, 5)", x.part(4, 5), PostDrawer.OUTSIDE);
        for (int strange : STRANGE) {
            due("4: part(" + strange + ", 1)", x.part(strange, 1), PostDrawer.NONE);
            due("4: part(" + strange + ", -1)", x.part(strange, -1), PostDrawer.NONE);
            due("4: part(0, " + strange + ")", x.part(0, strange), PostDrawer.OUTSIDE);
        }
        // Parts that are no longer left are still drawn.
        x.verdict(31, true);
        x.verdict(30, true);
        x.shorter();
        due("4: part(0, 1) when not left", x.part(0, 1), 49);
        // A smaller drawing hides the parts of a greater one.
        x.draw(0, 0);
        due("4: part(1, 1) of the one before", x.part(1, 1), PostDrawer.NONE);
    }

    private static void promise4Faults() {
        PostDrawer x = new PostDrawer(1);
        for (int kind = 0; kind <= 4; kind++) {
            for (int size = 0; size <= 15; size++) {
                x.seed(1000L * size - 7);
                x.draw(kind, size);
                int faults = 0;
                for (int i = 0; i <= size; i++) {
                    faults += x.part(i, 0);
                }
                due("4: faults of " + kind + ", " + size, faults, kind == 3 ? (size + 1) / 2 : 0);
            }
            x = new PostDrawer(kind);
        }
    }

    private static void promise5Point() {
        PostDrawer x = new PostDrawer(7);
        x.draw(1, 1);
        due("5: point(0, 0, 0)", x.point(0, 0, 0), 50);
        due("5: point(0, 4, 4)", x.point(0, 4, 4), 209);
        due("5: point(0, 11, 11)", x.point(0, 11, 11), 43);
        due("5: point(1, 0, 19)", x.point(1, 0, 19), 208);
        due("5: point(2, 0, 0)", x.point(2, 0, 0), PostDrawer.NONE);
        due("5: point(0, 12, 0)", x.point(0, 12, 0), PostDrawer.NONE);
        due("5: point(0, 0, 20)", x.point(0, 0, 20), PostDrawer.NONE);
        due("5: point(0, -1, 1)", x.point(0, -1, 1), PostDrawer.NONE);
        due("5: point(0, 1, -1)", x.point(0, 1, -1), PostDrawer.NONE);
        for (int strange : STRANGE) {
            due("5: point(" + strange + ", 0, 0)", x.point(strange, 0, 0), PostDrawer.NONE);
            due("5: point(0, " + strange + ", 0)", x.point(0, strange, 0), PostDrawer.NONE);
        }
        due("5: point(0, 0, MAX)", x.point(0, 0, Integer.MAX_VALUE), PostDrawer.NONE);
        due("5: point(0, 0, MIN)", x.point(0, 0, Integer.MIN_VALUE), PostDrawer.NONE);
        for (int kind = 0; kind <= 4; kind++) {
            x.draw(kind, 15);
            due("5: point(15, 0, 0) of kind " + kind, x.point(15, 0, 0) == PostDrawer.NONE, kind != 1);
        }
    }

    private static void promise5PointKeepsTheDrawnSeed() {
        PostDrawer x = new PostDrawer(7);
        x.draw(1, 1);
        x.seed(8);
        due("5: point(0, 1, 1) of seed 7", x.point(0, 1, 1), 52);
        due("5: point(0, 2, 2) of seed 7", x.point(0, 2, 2), 29);
        x.same(12, 1, 15);
        due("5: point(0, 3, 3) of seed 7", x.point(0, 3, 3), 34);
        x.seed(1);
        x.draw(1, 1);
        due("5: point(1, 1, 1) of seed 1", x.point(1, 1, 1), 38);
    }

    private static void promise6Verdict() {
        PostDrawer x = new PostDrawer(2);
        x.draw(2, 2);
        due("6: verdict(7, true)", x.verdict(7, true), 1);
        due("6: verdict(1, true)", x.verdict(1, true), 2);
        due("6: verdict(7, true) again", x.verdict(7, true), 2);
        due("6: verdict(7, false)", x.verdict(7, false), 2);
        due("6: shorter() when it does not stay", x.shorter(), 3);
        due("6: minimal()", x.minimal(), false);
        due("6: verdict(0, true)", x.verdict(0, true), PostDrawer.OUTSIDE);
        due("6: verdict(8, true)", x.verdict(8, true), PostDrawer.OUTSIDE);
        due("6: verdict(9, true)", x.verdict(9, true), PostDrawer.OUTSIDE);
        due("6: verdict(15, true)", x.verdict(15, true), PostDrawer.OUTSIDE);
        due("6: verdict(-1, true)", x.verdict(-1, true), PostDrawer.OUTSIDE);
        due("6: verdict(MIN, true)", x.verdict(Integer.MIN_VALUE, true), PostDrawer.OUTSIDE);
        due("6: verdict(MIN + 1, true)", x.verdict(Integer.MIN_VALUE + 1, true), PostDrawer.OUTSIDE);
        due("6: verdict(4, false)", x.verdict(4, false), 3);
        x.draw(2, 15);
        due("6: verdict(65535, true)", x.verdict(65535, true), 1);
        due("6: verdict(65536, true)", x.verdict(65536, true), PostDrawer.OUTSIDE);
        due("6: verdict(32768, true)", x.verdict(32768, true), 2);
    }

    private static void promise6Room() {
        PostDrawer x = new PostDrawer(2);
        x.draw(2, 7);
        for (int bits = 1; bits <= 100; bits++) {
            due("6: verdict(" + bits + ", true)", x.verdict(bits, true), bits);
        }
        due("6: a 101st set", x.verdict(255, true), PostDrawer.ROOM);
        due("6: a 101st set again", x.verdict(101, false), PostDrawer.ROOM);
        due("6: wrong bits when full", x.verdict(256, true), PostDrawer.OUTSIDE);
        due("6: no bits when full", x.verdict(0, true), PostDrawer.OUTSIDE);
        due("6: the first told again", x.verdict(1, false), 100);
        due("6: the last told again", x.verdict(100, false), 100);
        due("6: the refused set does not stay", x.shorter(), 8);
        due("6: minimal() with the refused set", x.minimal(), false);
        x.draw(2, 7);
        due("6: room after a drawing", x.verdict(255, true), 1);
    }

    private static void promise7Shorter() {
        PostDrawer x = new PostDrawer(2);
        x.draw(4, 2);
        due("7: shorter() without verdicts", x.shorter(), 3);
        x.verdict(6, true);
        x.verdict(4, true);
        due("7: shorter() when all are not told", x.shorter(), 3);
        x.verdict(7, true);
        due("7: shorter()", x.shorter(), 1);
        due("7: left(0)", x.left(0), 2);
        x.verdict(6, false);
        due("7: shorter() begins with all", x.shorter(), 3);
        due("7: left(0) then", x.left(0), 0);
        x.verdict(5, true);
        due("7: shorter() in the middle, then the least", x.shorter(), 1);
        due("7: left(0) at last", x.left(0), 2);
        x.draw(4, 0);
        x.verdict(1, true);
        due("7: the last part stays", x.shorter(), 1);
        due("7: left(0) of one", x.left(0), 0);
    }

    private static void promise7GoesThroughAgain() {
        PostDrawer x = new PostDrawer(2);
        // Part 0 can only go when 1 and 2 are gone: that needs more goings through, each from the least on.
        x.draw(0, 3);
        x.verdict(15, true);
        x.verdict(11, true); // first going through: 2 is taken out
        x.verdict(9, true);  // second: 1
        x.verdict(8, true);  // third: 0
        due("7: shorter() by three goings through", x.shorter(), 1);
        due("7: left(0) after them", x.left(0), 3);
        // After one is taken out it goes on behind it, not from the least on.
        x.draw(0, 2);
        x.verdict(7, true);
        x.verdict(5, true); // 1 is taken out, then 2 is tried before 0
        x.verdict(4, true);
        x.verdict(1, true);
        due("7: shorter() goes on behind it", x.shorter(), 1);
        due("7: left(0) shows the order", x.left(0), 0);
    }

    private static void promise7AllSixteen() {
        PostDrawer x = new PostDrawer(2);
        // One part a going through: the greatest goes first, so each round starts over.
        x.draw(0, 15);
        for (int parts = 16; parts >= 1; parts--) {
            x.verdict((1 << parts) - 1, true);
        }
        due("7: shorter() from sixteen", x.shorter(), 1);
        due("7: left(0) from sixteen", x.left(0), 0);
        due("7: minimal() from sixteen", x.minimal(), true);
        x.verdict(1, false);
        due("7: shorter() to two", x.shorter(), 2);
        due("7: left(1) of two", x.left(1), 1);
        // All in one going through: the least goes first.
        x.draw(0, 15);
        for (int parts = 0; parts <= 15; parts++) {
            x.verdict(65535 & ~((1 << parts) - 1), true);
        }
        due("7: shorter() from the least", x.shorter(), 1);
        due("7: left(0) from the least", x.left(0), 15);
    }

    private static void promise8Left() {
        PostDrawer x = new PostDrawer(2);
        x.draw(0, 4);
        x.verdict(31, true);
        x.verdict(29, true);
        x.verdict(21, true);
        due("8: shorter()", x.shorter(), 3);
        due("8: left(0)", x.left(0), 0);
        due("8: left(1)", x.left(1), 2);
        due("8: left(2)", x.left(2), 4);
        due("8: left(3)", x.left(3), PostDrawer.NONE);
        for (int strange : STRANGE) {
            due("8: left(" + strange + ")", x.left(strange), PostDrawer.NONE);
        }
        // A verdict alone changes nothing of what is left.
        x.verdict(5, true);
        due("8: left(2) after a verdict", x.left(2), 4);
        x.draw(0, 15);
        due("8: left(15)", x.left(15), 15);
        due("8: left(16)", x.left(16), PostDrawer.NONE);
    }

    private static void promise9Minimal() {
        PostDrawer x = new PostDrawer(2);
        due("9: minimal() when nothing is drawn", x.minimal(), false);
        x.draw(0, 2);
        due("9: minimal() without verdicts", x.minimal(), false);
        x.verdict(7, true);
        due("9: minimal() before shorter", x.minimal(), true);
        x.verdict(1, true);
        due("9: minimal() when a set lacks two", x.minimal(), true);
        x.verdict(3, true);
        due("9: minimal() when a set lacks the greatest", x.minimal(), false);
        x.verdict(3, false);
        x.verdict(6, true);
        due("9: minimal() when a set lacks the least", x.minimal(), false);
        due("9: shorter()", x.shorter(), 2);
        due("9: minimal() of two", x.minimal(), true);
        x.verdict(6, false);
        due("9: minimal() when it stays no more", x.minimal(), false);
        x.draw(0, 0);
        x.verdict(1, true);
        due("9: minimal() of one", x.minimal(), true);
        x.verdict(1, false);
        due("9: minimal() of one that does not stay", x.minimal(), false);
    }

    private static void promise10Faultless() {
        PostDrawer x = new PostDrawer(7);
        x.draw(3, 4);
        boolean[] faultless = {false, true, true, true, false, false};
        for (int i = 0; i < faultless.length; i++) {
            due("10: faultless(" + i + ")", x.faultless(i), faultless[i]);
        }
        for (int strange : STRANGE) {
            due("10: faultless(" + strange + ")", x.faultless(strange), false);
        }
        for (int kind = 0; kind <= 4; kind++) {
            x.draw(kind, 0);
            due("10: faultless(0) of kind " + kind, x.faultless(0), kind == 3);
        }
    }

    private static void promise11Same() {
        PostDrawer x = new PostDrawer(16);
        due("11: same(16, 0, 0)", x.same(16, 0, 0), true);
        due("11: same(17, 0, 0)", x.same(17, 0, 0), false);
        for (int strange : STRANGE) {
            due("11: same(16, " + strange + ", 0)", x.same(16, strange, 0), false);
            due("11: same(16, 0, " + strange + ")", x.same(16, 0, strange), false);
        }
        due("11: same(16, 5, 0)", x.same(16, 5, 0), false);
        due("11: same(16, 4, 15)", x.same(16, 4, 15), true);
        // Other seeds may draw the same facts by chance: these were found by a search.
        due("11: same(4265, 0, 0)", x.same(4265, 0, 0), true);
        due("11: same(4265, 0, 1)", x.same(4265, 0, 1), false);
        due("11: same(4265, 1, 0)", x.same(4265, 1, 0), false);
        x.seed(2349);
        due("11: same facts and faults", x.same(399119074094770113L, 3, 1), true);
        x.seed(13);
        due("11: same facts, other faults", x.same(-125188520829326405L, 3, 1), false);
        x.seed(429);
        due("11: same facts of books, other order", x.same(1941295572098890500L, 0, 1), true);
    }

    private static void promise11ChangesNothing() {
        PostDrawer x = new PostDrawer(7);
        x.draw(3, 4);
        x.verdict(31, true);
        x.verdict(30, true);
        x.shorter();
        x.seed(8);
        due("11: same(7, 3, 4) is asked of the next seed", x.same(7, 3, 4), false);
        due("11: same(8, 3, 4)", x.same(8, 3, 4), true);
        due("11: part(0, 2) as before", x.part(0, 2), 697);
        due("11: left(0) as before", x.left(0), 1);
        due("11: verdict(1, true)", x.verdict(1, true), 3);
        due("11: seed(9)", x.seed(9), 8);
    }
}
