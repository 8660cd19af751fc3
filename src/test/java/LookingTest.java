/** Promises 8 and 9: about, base. */
public final class LookingTest {
    private static final Due due = new Due();

    public static void main(String[] args) {
        SlicedReads x = new SlicedReads();
        x.refer(0b1110_0100_1110_0100, 8);
        Calls.read(x, 5, Calls.MATCH, 2, Calls.INSERT, 0);
        Calls.read(x, 1, Calls.CHANGE, 3, Calls.REMOVE, 2, Calls.MATCH, 1, Calls.INSERT, 2, Calls.INSERT, 1);
        x.start(0);
        x.edit(Calls.MATCH, 4);
        reads(x);
        x.pack();
        x.unpack(0);
        shelf(x);
        x.clear(false);
        shelf(x);
        x.refer(-1, 16);
        shelf(x);
        due.refuses("about(0, 0, false) without reads", IndexOutOfBoundsException.class, () -> x.about(0, 0, false));
        due.end("LookingTest");
    }

    private static void reads(SlicedReads x) {
        row(x, 0, false, new int[] {5, 3, 2, 2}, new int[] {1, 2, 0});
        row(x, 1, false, new int[] {1, 4, 5, 4}, new int[] {3, 0, 2, 1});
        missing(x, -1, false);
        missing(x, 2, false);
        missing(x, Integer.MIN_VALUE, false);
        missing(x, Integer.MAX_VALUE, false);
        missing(x, 0, true);
    }

    /** The read that comes first there is the one at the lower position. */
    private static void shelf(SlicedReads x) {
        row(x, 1, true, new int[] {5, 3, 2, 2}, new int[] {1, 2, 0});
        row(x, 0, true, new int[] {1, 4, 5, 4}, new int[] {3, 0, 2, 1});
        missing(x, 2, true);
        missing(x, -1, true);
    }

    private static void row(SlicedReads x, int read, boolean shelf, int[] about, int[] bases) {
        for (int what = 0; what < about.length; what++) {
            int at = what;
            due.answers("about(" + read + ", " + what + ", " + shelf + ")", about[what], () -> x.about(read, at, shelf));
        }
        due.refuses("about(" + read + ", 4)", IllegalArgumentException.class, () -> x.about(read, 4, shelf));
        due.refuses("about(" + read + ", -1)", IllegalArgumentException.class, () -> x.about(read, -1, shelf));
        for (int k = 0; k < bases.length; k++) {
            int at = k;
            due.answers("base(" + read + ", " + k + ", " + shelf + ")", bases[k], () -> x.base(read, at, shelf));
        }
        due.refuses("base(" + read + ", -1)", IndexOutOfBoundsException.class, () -> x.base(read, -1, shelf));
        due.refuses("base behind the last", IndexOutOfBoundsException.class, () -> x.base(read, bases.length, shelf));
        due.refuses("base(" + read + ", MAX)", IndexOutOfBoundsException.class,
                () -> x.base(read, Integer.MAX_VALUE, shelf));
    }

    private static void missing(SlicedReads x, int read, boolean shelf) {
        due.refuses("about(" + read + ", 0)", IndexOutOfBoundsException.class, () -> x.about(read, 0, shelf));
        due.refuses("about(" + read + ", 4)", IndexOutOfBoundsException.class, () -> x.about(read, 4, shelf));
        due.refuses("base(" + read + ", 0)", IndexOutOfBoundsException.class, () -> x.base(read, 0, shelf));
    }
}
