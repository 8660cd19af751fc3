import java.util.Arrays;

/** The bounds of promise 5, edit, and of what 'Terms' says of a read's edits and bases. */
public final class EditBoundsTest {
    private static final Due due = new Due();
    private static final Class<IllegalArgumentException> NONE_SUCH = IllegalArgumentException.class;
    private static final Class<UnsupportedOperationException> TOO_MANY = UnsupportedOperationException.class;

    public static void main(String[] args) {
        oneMustBeUnderWay();
        kindsAre0To3();
        matchAndRemoveAre1OrMore();
        basesAre0To3();
        changeIsNotWhatItPassesOver();
        theReferenceHasSoManyMore();
        theRestCountsFromWhatIsPassed();
        theSameKindMakesLonger();
        longerIsNoEditMore();
        atMost12Edits();
        atMost20Bases();
        removeAndInsertAlone();
        theFirstNamedIsThrown();
        due.end("EditBoundsTest");
    }

    /** With a reference of so many bases, and a read under way. */
    private static Twins at(int bases, int position, int... edits) {
        String name = "behind " + Arrays.toString(edits) + " at " + position + " of " + bases;
        return new Twins(due, name, x -> x.referring(bases).begin(position, edits));
    }

    private static void takes(Twins twins, int kind, int number) {
        twins.answers("edit(" + kind + ", " + number + ")", 0, x -> x.edit(kind, number));
    }

    private static void refuses(Twins twins, Class<? extends RuntimeException> want, int kind, int number) {
        twins.refuses("edit(" + kind + ", " + number + ")", want, x -> x.edit(kind, number));
    }

    /** What the read has when it is finished behind one edit more. */
    private static void becomes(Twins twins, int kind, int number, int bases, int edits, int passed) {
        int[] want = {bases, edits, passed};
        for (int i = 0; i < 3; i++) {
            int what = i + 1;
            twins.answers("about(0, " + what + ") behind edit(" + kind + ", " + number + ")", want[i],
                    x -> x.edit(kind, number) + x.finish() + x.about(0, what, false));
        }
    }

    /** "IllegalStateException when none is under way", whatever else is wrong. */
    private static void oneMustBeUnderWay() {
        Twins[] none = {
            new Twins(due, "of a new object", x -> { }),
            new Twins(due, "with a reference", x -> x.referring(8)),
            new Twins(due, "behind finish()", x -> x.referring(8).read(2, Calls.MATCH, 3)),
            new Twins(due, "behind clear(false)", x -> {
                x.referring(8).begin(2, Calls.MATCH, 3);
                x.clear(false);
            }),
            new Twins(due, "behind clear(true)", x -> {
                x.referring(8).begin(2, Calls.MATCH, 3);
                x.clear(true);
            }),
            new Twins(due, "behind a refused start", x -> {
                x.referring(8);
                due.refuses("start(9)", IndexOutOfBoundsException.class, () -> x.start(9));
            }),
        };
        int[][] edits = {{2, 0}, {0, 1}, {1, 1}, {3, 1}, {4, 0}, {-1, 0}, {2, 4}, {0, 0}, {0, 161}, {0, 21}};
        for (Twins each : none) {
            for (int[] edit : edits) {
                refuses(each, IllegalStateException.class, edit[0], edit[1]);
            }
        }
        takes(at(8, 2), Calls.INSERT, 0);
        takes(at(0, 0), Calls.INSERT, 0);
    }

    /** "IllegalArgumentException when kind is not 0 .. 3". */
    private static void kindsAre0To3() {
        Twins begun = at(8, 1);
        for (int kind : new int[] {-1, 4, 5, 256, Integer.MIN_VALUE, Integer.MAX_VALUE}) {
            for (int number : new int[] {0, 1, 2, 3}) {
                refuses(begun, NONE_SUCH, kind, number);
            }
        }
        for (int kind = 0; kind <= 3; kind++) {
            takes(begun, kind, 2);
        }
    }

    /** "MATCH n (1 or more)", "REMOVE n (1 or more)": "n less than 1" is none. */
    private static void matchAndRemoveAre1OrMore() {
        for (int kind : new int[] {Calls.MATCH, Calls.REMOVE}) {
            for (Twins each : new Twins[] {at(8, 2), at(8, 2, kind, 2), at(8, 2, Calls.INSERT, 1), at(8, 8)}) {
                for (int n : new int[] {0, -1, -2, Integer.MIN_VALUE}) {
                    refuses(each, NONE_SUCH, kind, n);
                }
            }
            takes(at(8, 2), kind, 1);
            takes(at(8, 2), kind, 2);
            takes(at(8, 2, kind, 2), kind, 1);
        }
        becomes(at(8, 2), Calls.MATCH, 1, 1, 1, 1);
        becomes(at(8, 2, Calls.INSERT, 3), Calls.REMOVE, 1, 1, 2, 1);
    }

    /** "b not 0 .. 3". */
    private static void basesAre0To3() {
        for (int b : new int[] {-1, 4, 5, Integer.MIN_VALUE, Integer.MAX_VALUE}) {
            refuses(at(8, 2), NONE_SUCH, Calls.INSERT, b);
            refuses(at(8, 2), NONE_SUCH, Calls.CHANGE, b);
            refuses(at(8, 8), NONE_SUCH, Calls.INSERT, b);
        }
        for (int b = 0; b <= 3; b++) {
            int base = b;
            at(8, 2).answers("the base of INSERT " + b, b,
                    x -> x.edit(Calls.INSERT, base) + x.finish() + x.base(0, 0, false));
        }
    }

    /** "CHANGE b: one base b, which is not the one that it passes over." */
    private static void changeIsNotWhatItPassesOver() {
        for (int a = 0; a <= 3; a++) {
            Twins over = at(8, a);
            Twins later = at(8, 0, Calls.REMOVE, a + 4);
            for (int b = 0; b <= 3; b++) {
                int base = b;
                if (a == b) {
                    refuses(over, NONE_SUCH, Calls.CHANGE, b);
                    refuses(later, NONE_SUCH, Calls.CHANGE, b);
                } else {
                    becomes(over, Calls.CHANGE, b, 1, 1, 1);
                    takes(later, Calls.CHANGE, b);
                    over.answers("the base of CHANGE " + b, b,
                            x -> x.edit(Calls.CHANGE, base) + x.finish() + x.base(0, 0, false));
                }
            }
        }
    }

    /** "or the reference has not so many bases more". */
    private static void theReferenceHasSoManyMore() {
        for (int kind : new int[] {Calls.MATCH, Calls.REMOVE}) {
            for (int left = 1; left <= 3; left++) {
                takes(at(8, 8 - left), kind, left);
                refuses(at(8, 8 - left), NONE_SUCH, kind, left + 1);
                refuses(at(8, 8 - left), NONE_SUCH, kind, Integer.MAX_VALUE);
                refuses(at(8, 8 - left), NONE_SUCH, kind, Integer.MAX_VALUE - 7);
            }
            refuses(at(8, 8), NONE_SUCH, kind, 1);
            refuses(at(0, 0), NONE_SUCH, kind, 1);
            refuses(at(160, 160), NONE_SUCH, kind, 1);
            takes(at(160, 159), kind, 1);
            refuses(at(160, 159), NONE_SUCH, kind, 2);
            takes(at(160, 140), kind, 20);
        }
        takes(at(160, 0), Calls.REMOVE, 160);
        refuses(at(160, 0), NONE_SUCH, Calls.REMOVE, 161);
        refuses(at(160, 0), NONE_SUCH, Calls.MATCH, 161);
        takes(at(8, 7), Calls.CHANGE, 0);
        takes(at(160, 159), Calls.CHANGE, 0);
        for (int b = 0; b <= 3; b++) {
            refuses(at(8, 8), NONE_SUCH, Calls.CHANGE, b);
            refuses(at(160, 160), NONE_SUCH, Calls.CHANGE, b);
            refuses(at(0, 0), NONE_SUCH, Calls.CHANGE, b);
            takes(at(8, 8), Calls.INSERT, b);
            takes(at(160, 160), Calls.INSERT, b);
        }
    }

    /** "one behind the other, from the position on": an edit passes over what those before it left. */
    private static void theRestCountsFromWhatIsPassed() {
        int[][] pasts = {
            {Calls.MATCH, 3}, {Calls.REMOVE, 3}, {Calls.CHANGE, 3, Calls.CHANGE, 0, Calls.CHANGE, 1},
            {Calls.MATCH, 2, Calls.INSERT, 0, Calls.INSERT, 0, Calls.REMOVE, 1},
        };
        for (int[] past : pasts) {
            Twins three = at(8, 2, past);
            for (int kind : new int[] {Calls.MATCH, Calls.REMOVE}) {
                takes(three, kind, 2);
                takes(three, kind, 3);
                refuses(three, NONE_SUCH, kind, 4);
            }
            // Base 5 of the reference is 1.
            refuses(three, NONE_SUCH, Calls.CHANGE, 1);
            takes(three, Calls.CHANGE, 2);
            Twins none = at(5, 2, past);
            refuses(none, NONE_SUCH, Calls.MATCH, 1);
            refuses(none, NONE_SUCH, Calls.REMOVE, 1);
            refuses(none, NONE_SUCH, Calls.CHANGE, 0);
            takes(none, Calls.INSERT, 0);
        }
    }

    /** "a MATCH or REMOVE behind one of the same kind makes that one longer". */
    private static void theSameKindMakesLonger() {
        becomes(at(8, 0, Calls.MATCH, 2), Calls.MATCH, 1, 3, 1, 3);
        becomes(at(8, 0, Calls.INSERT, 0, Calls.REMOVE, 2), Calls.REMOVE, 1, 1, 2, 3);
        becomes(at(8, 0, Calls.MATCH, 2, Calls.REMOVE, 1), Calls.MATCH, 1, 3, 3, 4);
        becomes(at(8, 0, Calls.REMOVE, 2, Calls.MATCH, 1), Calls.REMOVE, 1, 1, 3, 4);
        becomes(at(8, 0, Calls.MATCH, 2, Calls.INSERT, 1), Calls.MATCH, 1, 4, 3, 3);
        becomes(at(8, 0, Calls.REMOVE, 2, Calls.INSERT, 1), Calls.REMOVE, 1, 1, 3, 3);
        becomes(at(8, 0, Calls.MATCH, 2, Calls.CHANGE, 1), Calls.MATCH, 1, 4, 3, 4);
        becomes(at(8, 0, Calls.CHANGE, 1), Calls.CHANGE, 0, 2, 2, 2);
        becomes(at(8, 0, Calls.INSERT, 1), Calls.INSERT, 1, 2, 2, 0);
        becomes(at(8, 0, Calls.MATCH, 1, Calls.MATCH, 1, Calls.MATCH, 1), Calls.MATCH, 5, 8, 1, 8);
        becomes(at(8, 0, Calls.INSERT, 1, Calls.REMOVE, 1, Calls.REMOVE, 1), Calls.REMOVE, 6, 1, 2, 8);
        int[] bases = {0, 1, 2, 3};
        for (int k = 0; k < bases.length; k++) {
            int each = k;
            at(8, 0, Calls.MATCH, 1, Calls.MATCH, 2).answers("base " + k + " of a longer MATCH", bases[k],
                    x -> x.edit(Calls.MATCH, 1) + x.finish() + x.base(0, each, false));
        }
        longerPacks();
    }

    /** What was made longer step by step is packed as what was so long at once. */
    private static void longerPacks() {
        Counted steps = new Counted().referring(8);
        Counted once = new Counted().referring(8);
        steps.read(0, Calls.MATCH, 1, Calls.MATCH, 2, Calls.REMOVE, 2, Calls.REMOVE, 1, Calls.MATCH, 1, Calls.MATCH, 1);
        once.read(0, Calls.MATCH, 3, Calls.REMOVE, 3, Calls.MATCH, 2);
        steps.pack();
        once.pack();
        due.equal("bytes of a longer MATCH", Arrays.equals(steps.archive(), once.archive()) ? 1 : 0, 1);
        due.answers("unpack of a longer MATCH", 1, () -> steps.unpack(0));
        due.answers("edits of a longer MATCH", 3, () -> steps.about(0, 2, true));
    }

    /** So many edits, all INSERTs but the last one. */
    private static int[] edits(int count, int last) {
        int[] edits = new int[2 * count];
        for (int i = 0; i < count; i++) {
            edits[2 * i] = i == count - 1 ? last : Calls.INSERT;
            edits[2 * i + 1] = i == count - 1 ? 1 : i % 4;
        }
        return edits;
    }

    /** "(That is no edit more.)" */
    private static void longerIsNoEditMore() {
        for (int count : new int[] {10, 11, 12}) {
            becomes(at(160, 0, edits(count, Calls.MATCH)), Calls.MATCH, 1, count + 1, count, 2);
            becomes(at(160, 0, edits(count, Calls.REMOVE)), Calls.REMOVE, 159, count - 1, count, 160);
        }
        Twins last = at(160, 0, edits(12, Calls.MATCH));
        becomes(last, Calls.MATCH, 8, 20, 12, 9);
        refuses(last, TOO_MANY, Calls.MATCH, 9);
    }

    /** "UnsupportedOperationException when it would have more than 20 bases or 12 edits", the edits. */
    private static void atMost12Edits() {
        for (int last : new int[] {Calls.MATCH, Calls.INSERT, Calls.REMOVE}) {
            Twins ten = at(160, 0, edits(10, last));
            Twins eleven = at(160, 0, edits(11, last));
            Twins twelve = at(160, 0, edits(12, last));
            for (int kind = 0; kind <= 3; kind++) {
                // 2 is neither base 0 nor base 1 of the reference.
                takes(ten, kind, 2);
                takes(eleven, kind, 2);
                if (kind != last || kind == Calls.INSERT) {
                    refuses(twelve, TOO_MANY, kind, 2);
                }
            }
            eleven.answers("edits with an INSERT more", 12,
                    x -> x.edit(Calls.INSERT, 2) + x.finish() + x.about(0, 2, false));
            twelve.answers("finish()", 0, Counted::finish);
        }
    }

    /** "more than 20 bases". */
    private static void atMost20Bases() {
        becomes(at(160, 0), Calls.MATCH, 19, 19, 1, 19);
        becomes(at(160, 0), Calls.MATCH, 20, 20, 1, 20);
        refuses(at(160, 0), TOO_MANY, Calls.MATCH, 21);
        refuses(at(160, 0), TOO_MANY, Calls.MATCH, 160);
        Twins nineteen = at(160, 0, Calls.MATCH, 19);
        becomes(nineteen, Calls.MATCH, 1, 20, 1, 20);
        refuses(nineteen, TOO_MANY, Calls.MATCH, 2);
        refuses(nineteen, TOO_MANY, Calls.MATCH, 141);
        becomes(nineteen, Calls.CHANGE, 0, 20, 2, 20);
        becomes(nineteen, Calls.INSERT, 0, 20, 2, 19);
        becomes(nineteen, Calls.REMOVE, 141, 19, 2, 160);
        Twins twenty = at(160, 0, Calls.MATCH, 20);
        refuses(twenty, TOO_MANY, Calls.MATCH, 1);
        refuses(twenty, TOO_MANY, Calls.CHANGE, 1);
        refuses(twenty, TOO_MANY, Calls.INSERT, 0);
        becomes(twenty, Calls.REMOVE, 1, 20, 2, 21);
        becomes(twenty, Calls.REMOVE, 140, 20, 2, 160);
        Twins removed = at(160, 0, Calls.MATCH, 20, Calls.REMOVE, 1);
        refuses(removed, TOO_MANY, Calls.MATCH, 1);
        refuses(removed, TOO_MANY, Calls.CHANGE, 0);
        refuses(removed, TOO_MANY, Calls.INSERT, 3);
        becomes(removed, Calls.REMOVE, 139, 20, 2, 160);
        becomes(at(160, 0, Calls.INSERT, 1, Calls.CHANGE, 1), Calls.MATCH, 18, 20, 3, 19);
        refuses(at(160, 0, Calls.INSERT, 1, Calls.CHANGE, 1), TOO_MANY, Calls.MATCH, 19);
        // Both are full: twelve edits and twenty bases.
        Twins both = at(160, 0, Calls.INSERT, 0, Calls.INSERT, 0, Calls.INSERT, 0, Calls.INSERT, 0, Calls.INSERT, 0,
                Calls.INSERT, 0, Calls.INSERT, 0, Calls.INSERT, 0, Calls.INSERT, 0, Calls.INSERT, 0, Calls.REMOVE, 1);
        becomes(both, Calls.MATCH, 10, 20, 12, 11);
        refuses(both, TOO_MANY, Calls.MATCH, 11);
    }

    /** "each but INSERT passes over bases", and REMOVE gives none. */
    private static void removeAndInsertAlone() {
        becomes(at(8, 8), Calls.INSERT, 3, 1, 1, 0);
        becomes(at(0, 0), Calls.INSERT, 3, 1, 1, 0);
        at(8, 0, Calls.REMOVE, 7).refuses("finish() behind REMOVE", IllegalStateException.class, Counted::finish);
        becomes(at(8, 0, Calls.REMOVE, 7), Calls.MATCH, 1, 1, 2, 8);
        becomes(at(8, 0, Calls.REMOVE, 8), Calls.INSERT, 1, 1, 2, 8);
    }

    private static void theFirstNamedIsThrown() {
        Twins[] full = {at(160, 0, edits(12, Calls.INSERT)), at(160, 0, Calls.MATCH, 20), at(8, 8, edits(12, Calls.INSERT))};
        int[][] wrong = {{4, 0}, {-1, 0}, {0, 0}, {3, 0}, {2, 4}, {2, -1}, {1, 4}, {1, 0}, {0, 161}, {3, 161}};
        for (Twins each : full) {
            for (int[] edit : wrong) {
                refuses(each, NONE_SUCH, edit[0], edit[1]);
            }
        }
        // One too far for the reference and for the bases.
        refuses(at(20, 0), NONE_SUCH, Calls.MATCH, 21);
        refuses(at(21, 0), TOO_MANY, Calls.MATCH, 21);
        refuses(at(20, 0, Calls.MATCH, 20), NONE_SUCH, Calls.MATCH, 1);
        refuses(at(20, 0, Calls.MATCH, 20), NONE_SUCH, Calls.CHANGE, 1);
        refuses(at(20, 0, Calls.MATCH, 20), TOO_MANY, Calls.INSERT, 1);
    }
}
