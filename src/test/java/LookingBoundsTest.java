/** The bounds of promises 8 and 9: about, base. */
public final class LookingBoundsTest {
    private static final Due due = new Due();
    private static final int[] FAR = {Integer.MIN_VALUE, -2, -1, 25, 256, Integer.MAX_VALUE};
    private static final Class<IndexOutOfBoundsException> NONE_SUCH = IndexOutOfBoundsException.class;

    /** Two reads and one under way; nothing on the shelf. */
    private static final Twins READS = new Twins(due, "with two reads", x -> {
        x.referring(160);
        x.read(0, Calls.MATCH, 20, Calls.REMOVE, 140);
        x.read(160, Calls.INSERT, 3);
        x.begin(7, Calls.MATCH, 5);
    });
    /** One read, and three others on the shelf. */
    private static final Twins SHELF = new Twins(due, "with three on the shelf", x -> {
        shelve(x);
        x.clear(false);
        x.read(9, Calls.MATCH, 2);
    });

    public static void main(String[] args) {
        thereIsNoSuchRead();
        theShelfAndTheReadsAreTwoRows();
        whatIs0To3();
        noReadComesBeforeWrongWhat();
        theLeastAndTheMost();
        basesAre0ToTheLast();
        basesOfAnEarlierReadDoNotShow();
        theOneUnderWayIsNoRead();
        due.end("LookingBoundsTest");
    }

    private static void shelve(Counted x) {
        x.referring(160);
        x.read(5, Calls.CHANGE, 0);
        x.read(6, Calls.INSERT, 1, Calls.REMOVE, 154);
        x.read(8, Calls.INSERT, 0, Calls.INSERT, 1, Calls.INSERT, 2, Calls.INSERT, 3, Calls.INSERT, 0, Calls.INSERT, 1,
                Calls.INSERT, 2, Calls.INSERT, 3, Calls.INSERT, 0, Calls.INSERT, 1, Calls.INSERT, 2, Calls.MATCH, 9);
        x.pack();
        x.unpack(0);
    }

    private static void missing(Twins twins, int read, boolean shelf) {
        for (int what = 0; what <= 3; what++) {
            int at = what;
            twins.refuses("about(" + read + ", " + what + ", " + shelf + ")", NONE_SUCH, x -> x.about(read, at, shelf));
        }
        twins.refuses("base(" + read + ", 0, " + shelf + ")", NONE_SUCH, x -> x.base(read, 0, shelf));
        twins.refuses("base(" + read + ", -1, " + shelf + ")", NONE_SUCH, x -> x.base(read, -1, shelf));
    }

    private static void there(Twins twins, int read, boolean shelf, int... want) {
        for (int i = 0; i < want.length; i++) {
            int what = i;
            twins.answers("about(" + read + ", " + what + ", " + shelf + ")", want[i], x -> x.about(read, what, shelf));
        }
    }

    /** "IndexOutOfBoundsException when there is no such read". */
    private static void thereIsNoSuchRead() {
        for (int read : FAR) {
            missing(READS, read, false);
            missing(READS, read, true);
            missing(SHELF, read, false);
            missing(SHELF, read, true);
        }
        there(READS, 0, false, 0, 20, 2, 160);
        there(READS, 1, false, 160, 1, 1, 0);
        missing(READS, 2, false);
        missing(READS, 3, false);
        there(SHELF, 0, true, 5, 1, 1, 1);
        there(SHELF, 2, true, 8, 20, 12, 9);
        missing(SHELF, 3, true);
        Twins none = new Twins(due, "without reads", x -> x.referring(8));
        missing(none, 0, false);
        missing(none, 0, true);
        Twins full = new Twins(due, "with 24 reads", x -> {
            x.referring(8);
            for (int i = 0; i < 24; i++) {
                x.read(i % 9, Calls.INSERT, i % 4);
            }
        });
        there(full, 23, false, 5, 1, 1, 0);
        missing(full, 24, false);
        missing(full, 0, true);
    }

    /** "Of a read (on the shelf, when shelf)". */
    private static void theShelfAndTheReadsAreTwoRows() {
        missing(READS, 0, true);
        missing(READS, 1, true);
        there(SHELF, 0, false, 9, 2, 1, 2);
        missing(SHELF, 1, false);
        missing(SHELF, 2, false);
        there(SHELF, 1, true, 6, 1, 2, 154);
        SHELF.answers("base(0, 0, true)", 0, x -> x.base(0, 0, true));
        SHELF.answers("base(0, 0, false)", 1, x -> x.base(0, 0, false));
        Twins fewer = new Twins(due, "with one on the shelf behind three", x -> {
            shelve(x);
            x.clear(false);
            x.read(9, Calls.MATCH, 2);
            x.pack();
            x.unpack(0);
        });
        there(fewer, 0, true, 9, 2, 1, 2);
        missing(fewer, 1, true);
        missing(fewer, 2, true);
    }

    /** "IllegalArgumentException when what is none of these", which are 0 .. 3. */
    private static void whatIs0To3() {
        for (int what : new int[] {-1, 4, 5, Integer.MIN_VALUE, Integer.MAX_VALUE}) {
            READS.refuses("about(0, " + what + ", false)", IllegalArgumentException.class, x -> x.about(0, what, false));
            READS.refuses("about(1, " + what + ", false)", IllegalArgumentException.class, x -> x.about(1, what, false));
            SHELF.refuses("about(2, " + what + ", true)", IllegalArgumentException.class, x -> x.about(2, what, true));
        }
    }

    private static void noReadComesBeforeWrongWhat() {
        for (int what : new int[] {-1, 4, Integer.MIN_VALUE, Integer.MAX_VALUE}) {
            READS.refuses("about(2, " + what + ", false)", NONE_SUCH, x -> x.about(2, what, false));
            READS.refuses("about(-1, " + what + ", false)", NONE_SUCH, x -> x.about(-1, what, false));
            READS.refuses("about(0, " + what + ", true)", NONE_SUCH, x -> x.about(0, what, true));
            SHELF.refuses("about(3, " + what + ", true)", NONE_SUCH, x -> x.about(3, what, true));
        }
    }

    /** Each of the four at its least and at its most, of a read and on the shelf. */
    private static void theLeastAndTheMost() {
        Twins edges = new Twins(due, "at the edges", x -> {
            x.referring(160);
            x.read(160, Calls.INSERT, 3);
            x.read(0, Calls.MATCH, 20, Calls.REMOVE, 140);
            x.read(0, Calls.INSERT, 0, Calls.INSERT, 1, Calls.INSERT, 2, Calls.INSERT, 3, Calls.INSERT, 0, Calls.INSERT, 1,
                    Calls.INSERT, 2, Calls.INSERT, 3, Calls.INSERT, 0, Calls.INSERT, 1, Calls.REMOVE, 150, Calls.MATCH, 10);
            x.pack();
            x.unpack(0);
        });
        there(edges, 0, false, 160, 1, 1, 0);
        there(edges, 1, false, 0, 20, 2, 160);
        there(edges, 2, false, 0, 20, 12, 160);
        there(edges, 2, true, 160, 1, 1, 0);
        there(edges, 0, true, 0, 20, 2, 160);
        there(edges, 1, true, 0, 20, 12, 160);
        edges.answers("base 19 of MATCH 20", 3, x -> x.base(1, 19, false));
        edges.answers("base 19 behind REMOVE 150", 3, x -> x.base(2, 19, false));
        edges.answers("base 10 behind REMOVE 150", 150 % 4, x -> x.base(1, 10, true));
    }

    /** "Base k (from 0)": "IndexOutOfBoundsException when there is no such read or base." */
    private static void basesAre0ToTheLast() {
        for (int k : new int[] {-1, -2, Integer.MIN_VALUE, 20, 21, Integer.MAX_VALUE}) {
            READS.refuses("base(0, " + k + ", false)", NONE_SUCH, x -> x.base(0, k, false));
            SHELF.refuses("base(2, " + k + ", true)", NONE_SUCH, x -> x.base(2, k, true));
        }
        for (int k : new int[] {-1, 1, 2, 19, Integer.MIN_VALUE, Integer.MAX_VALUE}) {
            READS.refuses("base(1, " + k + ", false)", NONE_SUCH, x -> x.base(1, k, false));
            SHELF.refuses("base(0, " + k + ", true)", NONE_SUCH, x -> x.base(0, k, true));
            SHELF.refuses("base(1, " + k + ", true)", NONE_SUCH, x -> x.base(1, k, true));
        }
        READS.answers("base(0, 0, false)", 0, x -> x.base(0, 0, false));
        READS.answers("base(0, 18, false)", 2, x -> x.base(0, 18, false));
        READS.answers("base(0, 19, false)", 3, x -> x.base(0, 19, false));
        READS.answers("base(1, 0, false)", 3, x -> x.base(1, 0, false));
        SHELF.answers("base(2, 0, true)", 0, x -> x.base(2, 0, true));
        SHELF.answers("base(2, 10, true)", 2, x -> x.base(2, 10, true));
        SHELF.answers("base(2, 11, true)", 0, x -> x.base(2, 11, true));
        SHELF.answers("base(2, 19, true)", 0, x -> x.base(2, 19, true));
        SHELF.answers("base(1, 0, true)", 1, x -> x.base(1, 0, true));
    }

    private static void basesOfAnEarlierReadDoNotShow() {
        Twins shorter = new Twins(due, "in place of a longer one", x -> {
            x.referring(160).begin(0, Calls.MATCH, 20);
            x.read(3, Calls.MATCH, 2);
        });
        there(shorter, 0, false, 3, 2, 1, 2);
        shorter.answers("base(0, 1, false)", 0, x -> x.base(0, 1, false));
        shorter.refuses("base(0, 2, false)", NONE_SUCH, x -> x.base(0, 2, false));
        Twins cleared = new Twins(due, "behind clear of a longer one", x -> {
            x.referring(160).read(0, Calls.MATCH, 20);
            x.pack();
            x.unpack(0);
            x.clear(false);
            x.read(3, Calls.MATCH, 2);
            x.pack();
        });
        cleared.refuses("base(0, 2, false)", NONE_SUCH, x -> x.base(0, 2, false));
        cleared.answers("base(0, 19, true)", 3, x -> x.base(0, 19, true));
        cleared.answers("bases on the shelf behind unpack(0)", 2, x -> x.unpack(0) * 0 + x.about(0, 1, true));
        new Twins(due, "behind a second unpack(0)", x -> {
            x.referring(160).read(0, Calls.MATCH, 20);
            x.pack();
            x.unpack(0);
            x.clear(false);
            x.read(3, Calls.MATCH, 2);
            x.pack();
            x.unpack(0);
        }).refuses("base(0, 2, true)", NONE_SUCH, x -> x.base(0, 2, true));
    }

    private static void theOneUnderWayIsNoRead() {
        missing(READS, 2, false);
        READS.answers("about(2, 1, false) when it is finished", 5, x -> x.finish() * 0 + x.about(2, 1, false));
        READS.answers("base(2, 4, false) when it is finished", 3, x -> x.finish() * 0 + x.base(2, 4, false));
    }
}
