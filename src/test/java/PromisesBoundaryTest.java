/** The boundary cases that each promise names, each with a test of its own. */
public final class PromisesBoundaryTest {
    private static final int NONE = -1, OUTSIDE = -12, STATE = -13, ROOM = -14;
    private static final int MIN = Integer.MIN_VALUE, MAX = Integer.MAX_VALUE;

    private static int wrong = 0;

    private static void due(String call, long got, long want) {
        if (got != want) {
            wrong++;
            System.out.println(call + " answered " + got + ", due is " + want);
        }
    }

    private static void due(String call, boolean got, boolean want) {
        due(call, got ? 1 : 0, want ? 1 : 0);
    }

    public static void main(String[] args) {
        promise1NothingIsDrawn();
        promise1NoVerdicts();
        promise1SeedAtTheEdges();
        promise2TheOneBefore();
        promise2FromTheNextDrawingOn();
        promise2NoiseFromTheNextDrawingOn();
        promise3KindOutside();
        promise3SizeOutside();
        promise3BothOutside();
        promise3AllAreLeft();
        promise3VerdictsAreGone();
        promise4PartNone();
        promise4PartNoneWhenNothingIsDrawn();
        promise4WhatOutside();
        promise4NoneBeforeOutside();
        promise4PartsNotLeftAreThere();
        promise5SheetNone();
        promise5NoSheetsDrawn();
        promise5NothingDrawn();
        promise5PointNone();
        promise5GreyAtItsEdges();
        promise6ToldAgain();
        promise6ToldAgainWhenFull();
        promise6State();
        promise6OutsideNoBits();
        promise6OutsideOtherBits();
        promise6Room();
        promise6OutsideBeforeRoom();
        promise6RoomAfterADrawing();
        promise7State();
        promise7BeginsWithAll();
        promise8NoneTooSmallOrTooLarge();
        promise8NoneBehindThoseLeft();
        promise8NoneWhenNothingIsDrawn();
        promise9NothingDrawn();
        promise9ButNothing();
        promise9EachThatLacksOne();
        promise9AsksForThoseLeft();
        promise10NoSuchMachine();
        promise10NoMachinesDrawn();
        promise10NothingDrawn();
        promise11KindNone();
        promise11SizeNone();
        promise11OwnSeed();
        promise11NextSeed();
        the512thCall();
        System.out.println(wrong == 0 ? "all boundaries of the promises hold" : wrong + " answers are not as due");
        if (wrong != 0) {
            System.exit(1);
        }
    }

    private static PostDrawer drawn(int seed, int kind, int size) {
        PostDrawer x = new PostDrawer(seed);
        due("draw(" + kind + ", " + size + ")", x.draw(kind, size), size + 1);
        return x;
    }

    private static void promise1NothingIsDrawn() {
        PostDrawer x = new PostDrawer(0);
        for (int i : new int[] {MIN, -1, 0, 1, 15, MAX}) {
            due("1: new, part(" + i + ", 0)", x.part(i, 0), NONE);
            due("1: new, point(" + i + ", 0, 0)", x.point(i, 0, 0), NONE);
            due("1: new, left(" + i + ")", x.left(i), NONE);
            due("1: new, faultless(" + i + ")", x.faultless(i), false);
        }
        due("1: new, shorter()", x.shorter(), STATE);
        due("1: new, verdict(1, true)", x.verdict(1, true), STATE);
        due("1: new, minimal()", x.minimal(), false);
    }

    private static void promise1NoVerdicts() {
        PostDrawer x = new PostDrawer(0);
        x.draw(0, 0);
        due("1: no verdict for the one part", x.minimal(), false);
        due("1: the first set", x.verdict(1, true), 1);
    }

    private static void promise1SeedAtTheEdges() {
        for (int seed : new int[] {MIN, MIN + 1, -1, 0, 1, MAX - 1, MAX}) {
            PostDrawer x = new PostDrawer(seed);
            PostDrawer y = new PostDrawer(12345);
            y.seed((long) seed);
            x.draw(3, 15);
            y.draw(3, 15);
            for (int i = 0; i <= 15; i++) {
                for (int what = 0; what <= 4; what++) {
                    due("1: seed " + seed + ", part(" + i + ", " + what + ")", x.part(i, what), y.part(i, what));
                }
            }
            due("1: seed(0) after " + seed, x.seed(0), (long) seed);
        }
    }

    private static void promise2TheOneBefore() {
        PostDrawer x = new PostDrawer(-1);
        long before = -1;
        for (long s : new long[] {Long.MIN_VALUE, Long.MAX_VALUE, 0, 0, 1L << 32, -1, 0xFFFFFFFFL, -1}) {
            due("2: seed(" + s + ")", x.seed(s), before);
            before = s;
        }
    }

    private static void promise2FromTheNextDrawingOn() {
        PostDrawer x = drawn(7, 3, 4);
        int[] firsts = {49, 64, 41, 31, 57};
        boolean[] faultless = {false, true, true, true, false};
        x.seed(Long.MIN_VALUE);
        for (int i = 0; i <= 4; i++) {
            due("2: part(" + i + ", 1) of the drawing before", x.part(i, 1), firsts[i]);
            due("2: faultless(" + i + ") of the drawing before", x.faultless(i), faultless[i]);
        }
        x.draw(3, 4);
        due("2: the next drawing is another", x.part(0, 1) == 49 && x.part(1, 1) == 64 && x.part(2, 1) == 41, false);
        x.seed(7);
        x.draw(3, 4);
        for (int i = 0; i <= 4; i++) {
            due("2: part(" + i + ", 1) drawn again", x.part(i, 1), firsts[i]);
        }
    }

    private static void promise2NoiseFromTheNextDrawingOn() {
        PostDrawer x = drawn(7, 1, 1);
        x.seed(8);
        due("2: point(0, 0, 0) of the drawing before", x.point(0, 0, 0), 50);
        due("2: point(0, 11, 11) of the drawing before", x.point(0, 11, 11), 43);
        PostDrawer y = drawn(8, 1, 1);
        x.draw(1, 1);
        for (int i = 0; i < 12; i++) {
            due("2: point(1, " + i + ", " + i + ") of the next", x.point(1, i, i), y.point(1, i, i));
        }
    }

    private static void promise3KindOutside() {
        PostDrawer x = new PostDrawer(0);
        for (int kind : new int[] {MIN, -5, -1, 5, 6, 64, MAX}) {
            due("3: draw(" + kind + ", 0)", x.draw(kind, 0), OUTSIDE);
            due("3: draw(" + kind + ", 15)", x.draw(kind, 15), OUTSIDE);
        }
        for (int kind = 0; kind <= 4; kind++) {
            due("3: draw(" + kind + ", 0)", x.draw(kind, 0), 1);
        }
    }

    private static void promise3SizeOutside() {
        PostDrawer x = new PostDrawer(0);
        for (int size : new int[] {MIN, -2, -1, 16, 17, 31, 32, MAX}) {
            due("3: draw(0, " + size + ")", x.draw(0, size), OUTSIDE);
            due("3: draw(4, " + size + ")", x.draw(4, size), OUTSIDE);
        }
        for (int size = 0; size <= 15; size++) {
            due("3: draw(4, " + size + ")", x.draw(4, size), size + 1);
        }
    }

    private static void promise3BothOutside() {
        PostDrawer x = new PostDrawer(0);
        due("3: draw(-1, -1)", x.draw(-1, -1), OUTSIDE);
        due("3: draw(5, 16)", x.draw(5, 16), OUTSIDE);
        due("3: draw(MIN, MAX)", x.draw(MIN, MAX), OUTSIDE);
    }

    private static void promise3AllAreLeft() {
        PostDrawer x = drawn(0, 0, 15);
        x.verdict(65535, true);
        x.verdict(65534, true);
        due("3: shorter() before", x.shorter(), 15);
        for (int size : new int[] {15, 0, 1, 15}) {
            x.draw(2, size);
            for (int i = 0; i <= size; i++) {
                due("3: left(" + i + ") of size " + size, x.left(i), i);
            }
            due("3: left behind all of size " + size, x.left(size + 1), NONE);
        }
    }

    private static void promise3VerdictsAreGone() {
        PostDrawer x = drawn(0, 0, 0);
        x.verdict(1, true);
        due("3: minimal() before", x.minimal(), true);
        due("3: the same drawing again", x.draw(0, 0), 1);
        due("3: minimal() when the verdict is gone", x.minimal(), false);
        due("3: the count begins anew", x.verdict(1, false), 1);
        due("3: minimal() by the new one", x.minimal(), false);
    }

    private static void promise4PartNone() {
        for (int size : new int[] {0, 7, 15}) {
            PostDrawer x = drawn(0, 3, size);
            for (int i : new int[] {MIN, MIN + size, -1, size + 1, size + 2, 16, 32, MAX}) {
                for (int what = 0; what <= 4; what++) {
                    due("4: part(" + i + ", " + what + ") of size " + size, x.part(i, what), NONE);
                }
            }
            due("4: the last part", x.part(size, 4) >= 0, true);
        }
        // What a greater drawing left behind is no part of a smaller one.
        PostDrawer x = drawn(0, 3, 15);
        x.draw(3, 3);
        for (int i = 4; i <= 15; i++) {
            due("4: part(" + i + ", 1) of the drawing before", x.part(i, 1), NONE);
        }
    }

    private static void promise4PartNoneWhenNothingIsDrawn() {
        PostDrawer x = new PostDrawer(0);
        for (int what = 0; what <= 4; what++) {
            due("4: part(0, " + what + ") when nothing is drawn", x.part(0, what), NONE);
        }
    }

    private static void promise4WhatOutside() {
        for (int kind = 0; kind <= 4; kind++) {
            PostDrawer x = drawn(0, kind, 2);
            for (int what : new int[] {MIN, -2, -1, 5, 6, MAX}) {
                due("4: part(0, " + what + ") of kind " + kind, x.part(0, what), OUTSIDE);
                due("4: part(2, " + what + ") of kind " + kind, x.part(2, what), OUTSIDE);
            }
            due("4: part(2, 0) of kind " + kind, x.part(2, 0) >= 0, true);
            due("4: part(2, 4) of kind " + kind, x.part(2, 4) >= 0, true);
        }
    }

    private static void promise4NoneBeforeOutside() {
        PostDrawer x = new PostDrawer(0);
        due("4: part(0, 5) when nothing is drawn", x.part(0, 5), NONE);
        x.draw(0, 0);
        due("4: part(1, 5)", x.part(1, 5), NONE);
        due("4: part(-1, -1)", x.part(-1, -1), NONE);
    }

    private static void promise4PartsNotLeftAreThere() {
        PostDrawer x = drawn(7, 3, 4);
        x.verdict(31, true);
        x.verdict(30, true);
        due("4: shorter()", x.shorter(), 4);
        due("4: part(0, 0) when not left", x.part(0, 0), 1);
        due("4: part(0, 1) when not left", x.part(0, 1), 49);
    }

    private static void promise5SheetNone() {
        for (int size : new int[] {0, 15}) {
            PostDrawer x = drawn(0, 1, size);
            for (int sheet : new int[] {MIN, -5, -1, size + 1, 16, MAX - 4, MAX}) {
                due("5: point(" + sheet + ", 0, 0) of size " + size, x.point(sheet, 0, 0), NONE);
            }
            due("5: the first sheet", x.point(0, 0, 0) >= 0, true);
            due("5: the last sheet", x.point(size, 0, 0) >= 0, true);
        }
    }

    private static void promise5NoSheetsDrawn() {
        PostDrawer x = drawn(0, 1, 15);
        for (int kind : new int[] {0, 2, 3, 4}) {
            x.draw(kind, 15);
            for (int sheet = 0; sheet <= 15; sheet++) {
                due("5: point(" + sheet + ", 3, 3) of kind " + kind, x.point(sheet, 3, 3), NONE);
            }
        }
        x.draw(1, 15);
        due("5: point(15, 3, 3) of sheets", x.point(15, 3, 3) >= 0, true);
    }

    private static void promise5NothingDrawn() {
        PostDrawer x = new PostDrawer(0);
        due("5: point(0, 0, 0) when nothing is drawn", x.point(0, 0, 0), NONE);
        x.draw(1, 16);
        due("5: point(0, 0, 0) when the drawing was refused", x.point(0, 0, 0), NONE);
    }

    private static void promise5PointNone() {
        PostDrawer x = drawn(0, 1, 0);
        for (int y = 0; y < 20; y++) {
            for (int column : new int[] {MIN, -12, -1, 12, 13, MAX}) {
                due("5: point(0, " + column + ", " + y + ")", x.point(0, column, y), NONE);
            }
        }
        for (int column = 0; column < 12; column++) {
            for (int y : new int[] {MIN, -20, -1, 20, 21, MAX}) {
                due("5: point(0, " + column + ", " + y + ")", x.point(0, column, y), NONE);
            }
        }
        due("5: point(0, -1, -1)", x.point(0, -1, -1), NONE);
        due("5: point(0, 12, 20)", x.point(0, 12, 20), NONE);
        // 12 y + x would wrap to a place of the sheet.
        due("5: point(0, 4, 1 << 30)", x.point(0, 4, 1 << 30), NONE);
    }

    private static void promise5GreyAtItsEdges() {
        boolean[] seen = new boolean[256];
        for (int sheet = 0; sheet <= 15; sheet++) {
            PostDrawer x = drawn(11, 1, 15);
            for (int point = 0; point < 240; point++) {
                int grey = x.point(sheet, point % 12, point / 12);
                due("5: grey is 0 .. 255", grey >= 0 && grey <= 255, true);
                seen[grey & 255] = true;
            }
        }
        for (int grey = 0; grey <= 255; grey++) {
            boolean ink = 40 - 16 <= grey && grey <= 40 + 16;
            boolean paper = 200 - 16 <= grey && grey <= 200 + 16;
            due("5: grey " + grey + " on some sheet", seen[grey], ink || paper);
        }
    }

    private static void promise6ToldAgain() {
        PostDrawer x = drawn(0, 0, 0);
        due("6: told", x.verdict(1, true), 1);
        due("6: told again the same", x.verdict(1, true), 1);
        due("6: minimal() by the first", x.minimal(), true);
        due("6: told again another", x.verdict(1, false), 1);
        due("6: minimal() by the new one", x.minimal(), false);
        due("6: told a fourth time", x.verdict(1, true), 1);
        due("6: minimal() by the newest", x.minimal(), true);
    }

    private static PostDrawer full(int first) {
        PostDrawer x = drawn(0, 0, 7);
        for (int n = 0; n < 100; n++) {
            due("6: set " + (first + n), x.verdict(first + n, false), n + 1);
        }
        return x;
    }

    private static void promise6ToldAgainWhenFull() {
        PostDrawer x = full(156);
        due("6: the last set told again when full", x.verdict(255, true), 100);
        due("6: minimal() by it", x.minimal(), true);
        due("6: a set in the middle told again when full", x.verdict(254, true), 100);
        due("6: minimal() by both", x.minimal(), false);
        due("6: shorter() by both", x.shorter(), 7);
        due("6: told false again when full", x.verdict(254, false), 100);
        due("6: shorter() by the last", x.shorter(), 8);
        due("6: the first set told again when full", x.verdict(156, true), 100);
        due("6: still no room", x.verdict(155, true), ROOM);
    }

    private static void promise6State() {
        PostDrawer x = new PostDrawer(0);
        for (int bits : new int[] {1, 0, -1, 65535, 65536, MIN, MAX}) {
            due("6: verdict(" + bits + ", true) when nothing is drawn", x.verdict(bits, true), STATE);
            due("6: verdict(" + bits + ", false) when nothing is drawn", x.verdict(bits, false), STATE);
        }
        x.draw(5, 0);
        due("6: verdict(1, true) when the drawing was refused", x.verdict(1, true), STATE);
    }

    private static void promise6OutsideNoBits() {
        for (int size : new int[] {0, 15}) {
            PostDrawer x = drawn(0, 0, size);
            due("6: verdict(0, true) of size " + size, x.verdict(0, true), OUTSIDE);
            due("6: verdict(0, false) of size " + size, x.verdict(0, false), OUTSIDE);
        }
    }

    private static void promise6OutsideOtherBits() {
        for (int size = 0; size <= 15; size++) {
            PostDrawer x = drawn(0, 0, size);
            for (int bit = 0; bit < 32; bit++) {
                boolean isPart = bit <= size;
                due("6: bit " + bit + " of size " + size, x.verdict(1 << bit, true), isPart ? bit + 1 : OUTSIDE);
            }
            for (int bit = size + 1; bit < 32; bit++) {
                due("6: bit " + bit + " beside part 0", x.verdict(1 << bit | 1, true), OUTSIDE);
            }
            due("6: all bits of an int", x.verdict(-1, true), OUTSIDE);
            due("6: one bit too many", x.verdict((2 << size + 1) - 1, true), OUTSIDE);
            due("6: all parts", x.verdict((2 << size) - 1, true), size == 0 ? 1 : size + 2);
        }
    }

    private static void promise6Room() {
        PostDrawer x = full(1);
        due("6: a 101st set", x.verdict(101, true), ROOM);
        due("6: another 101st set", x.verdict(255, true), ROOM);
        due("6: a 101st set that does not stay", x.verdict(255, false), ROOM);
        due("6: the refused set does not stay", x.minimal(), false);
        due("6: shorter() without the refused set", x.shorter(), 8);
    }

    private static void promise6OutsideBeforeRoom() {
        PostDrawer x = full(1);
        due("6: no bits when full", x.verdict(0, true), OUTSIDE);
        due("6: other bits when full", x.verdict(256, true), OUTSIDE);
        due("6: other bits beside told ones when full", x.verdict(257, true), OUTSIDE);
    }

    private static void promise6RoomAfterADrawing() {
        PostDrawer x = full(1);
        x.draw(0, 7);
        for (int n = 1; n <= 100; n++) {
            due("6: set " + n + " after a drawing", x.verdict(255 - n, true), n);
        }
        due("6: a 101st set after a drawing", x.verdict(255, true), ROOM);
    }

    private static void promise7State() {
        PostDrawer x = new PostDrawer(0);
        due("7: shorter() when nothing is drawn", x.shorter(), STATE);
        x.draw(0, -1);
        due("7: shorter() when the drawing was refused", x.shorter(), STATE);
        x.draw(0, 0);
        due("7: shorter() when one part is drawn", x.shorter(), 1);
    }

    private static void promise7BeginsWithAll() {
        PostDrawer x = drawn(0, 0, 2);
        x.verdict(7, true);
        x.verdict(6, true);
        due("7: shorter()", x.shorter(), 2);
        due("7: shorter() again", x.shorter(), 2);
        // From those left it could go on to 4, but all parts come first and the way there is closed.
        x.verdict(6, false);
        x.verdict(4, true);
        due("7: shorter() from all parts", x.shorter(), 3);
        due("7: left(0) from all parts", x.left(0), 0);
    }

    private static void promise8NoneTooSmallOrTooLarge() {
        for (int size : new int[] {0, 15}) {
            PostDrawer x = drawn(0, 0, size);
            for (int i : new int[] {MIN, -16, -1, size + 1, 16, 32, MAX}) {
                due("8: left(" + i + ") of size " + size, x.left(i), NONE);
            }
            due("8: left(" + size + ")", x.left(size), size);
        }
    }

    private static void promise8NoneBehindThoseLeft() {
        PostDrawer x = drawn(0, 0, 3);
        x.verdict(15, true);
        x.verdict(14, true);
        x.verdict(10, true);
        due("8: shorter()", x.shorter(), 2);
        due("8: left(-1)", x.left(-1), NONE);
        due("8: left(0)", x.left(0), 1);
        due("8: left(1)", x.left(1), 3);
        due("8: left(2)", x.left(2), NONE);
        due("8: left(3)", x.left(3), NONE);
    }

    private static void promise8NoneWhenNothingIsDrawn() {
        PostDrawer x = new PostDrawer(0);
        for (int i = -1; i <= 16; i++) {
            due("8: left(" + i + ") when nothing is drawn", x.left(i), NONE);
        }
    }

    private static void promise9NothingDrawn() {
        PostDrawer x = new PostDrawer(0);
        due("9: minimal() when nothing is drawn", x.minimal(), false);
        x.verdict(1, true);
        x.verdict(0, true);
        due("9: minimal() when verdicts were refused", x.minimal(), false);
        x.draw(0, 16);
        due("9: minimal() when the drawing was refused", x.minimal(), false);
    }

    private static void promise9ButNothing() {
        PostDrawer x = drawn(0, 0, 0);
        due("9: minimal() of one part, not told", x.minimal(), false);
        x.verdict(1, true);
        x.verdict(0, true);
        due("9: minimal() of one part that stays", x.minimal(), true);
        x.verdict(1, false);
        due("9: minimal() of one part that does not stay", x.minimal(), false);
    }

    private static void promise9EachThatLacksOne() {
        for (int lacking = 0; lacking <= 15; lacking++) {
            PostDrawer x = drawn(0, 0, 15);
            x.verdict(65535, true);
            due("9: minimal() of sixteen", x.minimal(), true);
            x.verdict(65535 & ~(1 << lacking), true);
            due("9: minimal() when it stays without " + lacking, x.minimal(), false);
            x.verdict(65535 & ~(1 << lacking), false);
            x.verdict(65535 & ~(1 << lacking | 1 << (lacking + 1) % 16), true);
            due("9: minimal() when it stays without two", x.minimal(), true);
        }
    }

    private static void promise9AsksForThoseLeft() {
        PostDrawer x = drawn(0, 0, 2);
        x.verdict(7, true);
        x.verdict(6, true);
        due("9: minimal() of all", x.minimal(), false);
        x.shorter();
        due("9: minimal() of those left", x.minimal(), true);
        x.verdict(5, true);
        due("9: minimal() when a set has one not left", x.minimal(), true);
        x.verdict(2, true);
        due("9: minimal() when it stays without one of those left", x.minimal(), false);
    }

    private static void promise10NoSuchMachine() {
        for (int size : new int[] {0, 4, 15}) {
            PostDrawer x = drawn(7, 3, size);
            for (int i : new int[] {MIN, -32, -1, size + 1, 16, 32, 33, MAX}) {
                due("10: faultless(" + i + ") of size " + size, x.faultless(i), false);
            }
        }
        due("10: one machine has no faults", drawn(7, 3, 0).faultless(0), true);
    }

    private static void promise10NoMachinesDrawn() {
        PostDrawer x = drawn(7, 3, 15);
        for (int kind : new int[] {0, 1, 2, 4}) {
            x.draw(kind, 15);
            for (int i = 0; i <= 15; i++) {
                due("10: faultless(" + i + ") of kind " + kind, x.faultless(i), false);
            }
        }
    }

    private static void promise10NothingDrawn() {
        PostDrawer x = new PostDrawer(0);
        for (int i = -1; i <= 16; i++) {
            due("10: faultless(" + i + ") when nothing is drawn", x.faultless(i), false);
        }
        x.draw(3, 16);
        due("10: faultless(0) when the drawing was refused", x.faultless(0), false);
    }

    private static void promise11KindNone() {
        PostDrawer x = new PostDrawer(0);
        for (int kind : new int[] {MIN, -1, 5, 64, MAX}) {
            due("11: same(0, " + kind + ", 0)", x.same(0, kind, 0), false);
            due("11: same(0, " + kind + ", 15)", x.same(0, kind, 15), false);
        }
    }

    private static void promise11SizeNone() {
        PostDrawer x = new PostDrawer(0);
        for (int size : new int[] {MIN, -2, -1, 16, 17, 32, MAX}) {
            due("11: same(0, 0, " + size + ")", x.same(0, 0, size), false);
            due("11: same(0, 4, " + size + ")", x.same(0, 4, size), false);
        }
        due("11: same(0, -1, -1)", x.same(0, -1, -1), false);
    }

    private static void promise11OwnSeed() {
        PostDrawer x = new PostDrawer(-1);
        for (int kind = 0; kind <= 4; kind++) {
            for (int size = 0; size <= 15; size++) {
                due("11: same(-1, " + kind + ", " + size + ")", x.same(-1, kind, size), true);
                // An int's -1 keeps its sign: the seed is no 2 to the 32 less 1.
                due("11: same(0xFFFFFFFF, " + kind + ", " + size + ")", x.same(0xFFFFFFFFL, kind, size), false);
            }
        }
    }

    private static void promise11NextSeed() {
        PostDrawer x = drawn(7, 3, 4);
        x.seed(Long.MAX_VALUE);
        due("11: same(7, ..) is asked of the next drawing's seed", x.same(7, 3, 4), false);
        due("11: same(MAX, ..)", x.same(Long.MAX_VALUE, 3, 4), true);
        x.seed(Long.MIN_VALUE);
        due("11: same(MIN, ..)", x.same(Long.MIN_VALUE, 3, 4), true);
    }

    /** The last call that the document promises: the 512th after the object has been made. */
    private static void the512thCall() {
        PostDrawer x = new PostDrawer(7);
        x.draw(3, 4);
        for (int call = 2; call <= 508; call++) {
            x.verdict(1 + call % 31, call % 31 == 30);
        }
        due("509th call, verdict", x.verdict(30, true), 31);
        due("510th call, shorter", x.shorter(), 4);
        due("511th call, left", x.left(0), 1);
        due("512th call, part", x.part(4, 2), 919);
    }
}
