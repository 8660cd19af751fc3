/** The bounds of promises 2 and 3, refer and clear, and of what 'Terms' says of bases and the reference. */
public final class ReferBoundsTest {
    private static final Due due = new Due();
    private static final int[] TOO_SMALL = {0, -1, -16, Integer.MIN_VALUE};
    private static final int[] TOO_LARGE = {17, 18, 32, Integer.MAX_VALUE};

    private static final Twins NEW = new Twins(due, "of a new object", x -> { });
    private static final Twins UNDER_WAY =
            new Twins(due, "with one under way", x -> x.referring(8).begin(2, Calls.MATCH, 3));
    private static final Twins BEGUN = new Twins(due, "with one just started", x -> x.start(0));
    private static final Twins ONE_READ = new Twins(due, "with a read", x -> x.referring(8).read(2, Calls.MATCH, 3));
    private static final Twins FULL_UNDER_WAY =
            new Twins(due, "with 160 and one under way", x -> x.referring(160).begin(160, Calls.INSERT, 1));
    private static final Twins FULL_ONE_READ =
            new Twins(due, "with 160 and a read", x -> x.referring(160).read(160, Calls.INSERT, 1));
    private static final Twins MUCH = new Twins(due, "with all there is", ReferBoundsTest::shelfAndArchive);

    public static void main(String[] args) {
        basesAre0To3();
        theLowestBitsComeFirst();
        nIs1To16();
        wrongNComesFirst();
        notWithReads();
        readsComeBeforeTheLength();
        atMost160();
        referComesToTheEnd();
        clearOfReads();
        clearOfAll();
        clearOfNothing();
        clearAgainAndAgain();
        due.end("ReferBoundsTest");
    }

    private static Twins having(int bases) {
        return new Twins(due, "with " + bases + " bases", x -> x.referring(bases));
    }

    /** The base that the object has at a place of its reference. */
    private static int baseAt(Counted x, int place) {
        int read = x.read(place, Calls.MATCH, 1);
        return x.base(read, 0, false);
    }

    /** "BASES are 0 .. 3." */
    private static void basesAre0To3() {
        for (int base = 0; base <= 3; base++) {
            int each = base;
            NEW.answers("the base of refer(" + base + ", 1)", base, x -> x.refer(each, 1) - 1 + baseAt(x, 0));
            NEW.answers("the last base of 16", base, x -> x.refer(each << 30, 16) - 16 + baseAt(x, 15));
        }
        NEW.answers("the base of refer(4, 1)", 0, x -> x.refer(4, 1) - 1 + baseAt(x, 0));
        NEW.answers("the base of refer(-1, 1)", 3, x -> x.refer(-1, 1) - 1 + baseAt(x, 0));
        NEW.answers("the base of refer(MIN, 1)", 0, x -> x.refer(Integer.MIN_VALUE, 1) - 1 + baseAt(x, 0));
    }

    /** "The n bases in the lowest bits of w, two bits each, the lowest first". */
    private static void theLowestBitsComeFirst() {
        int w = 0b11_01_10_00_00_01_11_10_01_11_00_10_10_00_01_11;
        int[] bases = {3, 1, 0, 2, 2, 0, 3, 1, 2, 3, 1, 0, 0, 2, 1, 3};
        for (int n : new int[] {1, 2, 15, 16}) {
            Counted x = new Counted();
            due.answers("refer of " + n, n, () -> x.refer(w, n));
            due.answers("refer of one more", n + 1, () -> x.refer(2, 1));
            x.read(0, Calls.MATCH, n + 1);
            for (int k = 0; k < n; k++) {
                int at = k;
                due.answers("base " + k + " of " + n, bases[k], () -> x.base(0, at, false));
            }
            due.answers("the base behind " + n, 2, () -> x.base(0, n, false));
        }
    }

    /** "IllegalArgumentException when n is not 1 .. 16". */
    private static void nIs1To16() {
        for (Twins each : new Twins[] {NEW, having(1), having(159), having(160)}) {
            wrongN(each);
        }
        for (int n : new int[] {1, 2, 15, 16}) {
            NEW.answers("refer(0, " + n + ")", n, x -> x.refer(0, n));
            having(5).answers("refer(0, " + n + ")", 5 + n, x -> x.refer(0, n));
        }
    }

    private static void wrongN(Twins each) {
        for (int n : TOO_SMALL) {
            each.refuses("refer(-1, " + n + ")", IllegalArgumentException.class, x -> x.refer(-1, n));
        }
        for (int n : TOO_LARGE) {
            each.refuses("refer(-1, " + n + ")", IllegalArgumentException.class, x -> x.refer(-1, n));
        }
    }

    /** "where several exceptions that a call names fit, the one named first is thrown". */
    private static void wrongNComesFirst() {
        for (Twins each : new Twins[] {UNDER_WAY, BEGUN, ONE_READ, FULL_UNDER_WAY, FULL_ONE_READ}) {
            wrongN(each);
        }
    }

    /** "IllegalStateException when there are reads, or one is under way". */
    private static void notWithReads() {
        for (Twins each : new Twins[] {UNDER_WAY, BEGUN, ONE_READ}) {
            each.refuses("refer(0, 1)", IllegalStateException.class, x -> x.refer(0, 1));
            each.refuses("refer(-1, 16)", IllegalStateException.class, x -> x.refer(-1, 16));
        }
        new Twins(due, "with a read and one under way", x -> {
            x.referring(8).read(2, Calls.MATCH, 3);
            x.start(1);
        }).refuses("refer(0, 1)", IllegalStateException.class, x -> x.refer(0, 1));
        UNDER_WAY.answers("refer when it is gone", 9, x -> x.clear(false) + x.refer(0, 1));
        ONE_READ.answers("refer when it is gone", 9, x -> x.clear(false) + x.refer(0, 1));
        new Twins(due, "with a shelf and an archive alone", ReferBoundsTest::shelfAndArchive)
                .answers("refer(0, 1)", 9, x -> x.clear(false) + x.refer(0, 1));
        new Twins(due, "behind a refused start", x -> refusedStart(x.referring(8)))
                .answers("refer(0, 1)", 9, x -> x.refer(0, 1));
    }

    private static void refusedStart(Counted x) {
        due.refuses("start(9)", IndexOutOfBoundsException.class, () -> x.start(9));
    }

    private static void readsComeBeforeTheLength() {
        for (Twins each : new Twins[] {FULL_UNDER_WAY, FULL_ONE_READ}) {
            each.refuses("refer(0, 1)", IllegalStateException.class, x -> x.refer(0, 1));
            each.refuses("refer(0, 16)", IllegalStateException.class, x -> x.refer(0, 16));
        }
    }

    /** "UnsupportedOperationException when there would be more than 160." */
    private static void atMost160() {
        having(158).answers("refer(0, 1)", 159, x -> x.refer(0, 1));
        having(159).answers("refer(0, 1)", 160, x -> x.refer(0, 1));
        having(160).refuses("refer(0, 1)", UnsupportedOperationException.class, x -> x.refer(0, 1));
        having(160).refuses("refer(0, 16)", UnsupportedOperationException.class, x -> x.refer(0, 16));
        having(159).refuses("refer(0, 2)", UnsupportedOperationException.class, x -> x.refer(0, 2));
        having(143).answers("refer(0, 16)", 159, x -> x.refer(0, 16));
        having(144).answers("refer(0, 16)", 160, x -> x.refer(0, 16));
        having(145).refuses("refer(0, 16)", UnsupportedOperationException.class, x -> x.refer(0, 16));
        having(145).answers("refer(0, 15)", 160, x -> x.refer(0, 15));
        having(146).refuses("refer(-1, 15)", UnsupportedOperationException.class, x -> x.refer(-1, 15));
        having(160).answers("refer behind clear(true)", 16, x -> x.clear(true) + x.refer(0, 16));
        new Twins(due, "with 160 behind clear(false)", x -> x.referring(160).clear(false))
                .refuses("refer(0, 1)", UnsupportedOperationException.class, x -> x.refer(0, 1));
    }

    private static void referComesToTheEnd() {
        having(159).answers("base 159", 2, x -> x.refer(2, 1) - 160 + baseAt(x, 159));
        having(159).answers("base 158", 2, x -> x.refer(1, 1) - 160 + baseAt(x, 158));
        having(160).answers("base 0 of 160", 0, x -> baseAt(x, 0));
        having(160).answers("base 159 of 160", 3, x -> baseAt(x, 159));
    }

    /** Five reads, their second block on the shelf, one read under way; bytes of the archive changed since. */
    private static void shelfAndArchive(Counted x) {
        x.referring(8);
        for (int i = 0; i < 5; i++) {
            x.read(i, Calls.MATCH, 4 - i % 2, Calls.INSERT, i % 4);
        }
        x.pack();
        x.unpack(1);
        x.corrupt(0, 77);
        x.begin(6, Calls.MATCH, 1);
    }

    /** "All reads go, and the one under way [...] The archive stays. (Else the shelf stays.)" */
    private static void clearOfReads() {
        int size = MUCH.one().size();
        MUCH.answers("reads() behind clear(false)", 0, x -> x.clear(false) + x.reads());
        Twins after = new Twins(due, "behind clear(false)", x -> {
            shelfAndArchive(x);
            x.clear(false);
        });
        after.refuses("about(0, 0, false)", IndexOutOfBoundsException.class, x -> x.about(0, 0, false));
        after.refuses("edit(2, 0)", IllegalStateException.class, x -> x.edit(Calls.INSERT, 0));
        after.refuses("finish()", IllegalStateException.class, Counted::finish);
        after.refuses("about(2, 0, true)", IndexOutOfBoundsException.class, x -> x.about(2, 0, true));
        after.answers("about(0, 0, true)", 3, x -> x.about(0, 0, true));
        after.answers("about(1, 0, true)", 4, x -> x.about(1, 0, true));
        after.answers("base(1, 4, true)", 0, x -> x.base(1, 4, true));
        after.answers("refer(0, 1)", 9, x -> x.refer(0, 1));
        after.answers("the last base", 3, x -> baseAt(x, 7));
        after.answers("the next number", 0, x -> x.read(8, Calls.INSERT, 0));
        archiveStays(after, size);
        after.answers("unpack(1)", 2, x -> x.unpack(1));
    }

    private static void archiveStays(Twins after, int size) {
        int[] bytes = MUCH.one().archive();
        after.answers("size()", size, Counted::size);
        after.answers("blocks()", 2, Counted::blocks);
        for (int k = 0; k < size; k++) {
            int at = k;
            after.answers("at(" + k + ")", bytes[k], x -> x.at(at));
        }
        after.refuses("unpack(0)", IllegalArgumentException.class, x -> x.unpack(0));
    }

    /** "if all, the reference too, and what is on the shelf". */
    private static void clearOfAll() {
        int size = MUCH.one().size();
        Twins after = new Twins(due, "behind clear(true)", x -> {
            shelfAndArchive(x);
            x.clear(true);
        });
        after.answers("reads()", 0, Counted::reads);
        after.refuses("about(0, 0, false)", IndexOutOfBoundsException.class, x -> x.about(0, 0, false));
        after.refuses("about(0, 0, true)", IndexOutOfBoundsException.class, x -> x.about(0, 0, true));
        after.refuses("base(0, 0, true)", IndexOutOfBoundsException.class, x -> x.base(0, 0, true));
        after.refuses("edit(2, 0)", IllegalStateException.class, x -> x.edit(Calls.INSERT, 0));
        after.refuses("finish()", IllegalStateException.class, Counted::finish);
        after.refuses("start(1)", IndexOutOfBoundsException.class, x -> x.start(1));
        after.refuses("depth(0)", IndexOutOfBoundsException.class, x -> x.depth(0));
        after.refuses("unpack(1) without the reference", IllegalArgumentException.class, x -> x.unpack(1));
        after.answers("start(0)", 0, x -> x.start(0));
        after.answers("refer(0, 1)", 1, x -> x.refer(0, 1));
        after.answers("unpack(1) with the reference again", 2, x -> x.referring(8).unpack(1));
        archiveStays(after, size);
    }

    private static void clearOfNothing() {
        for (boolean all : new boolean[] {false, true}) {
            Twins after = new Twins(due, "behind clear(" + all + ") of a new object", x -> x.clear(all));
            after.answers("reads()", 0, Counted::reads);
            after.answers("size()", 0, Counted::size);
            after.answers("refer(0, 16)", 16, x -> x.refer(0, 16));
            after.refuses("finish()", IllegalStateException.class, Counted::finish);
            after.refuses("about(0, 0, true)", IndexOutOfBoundsException.class, x -> x.about(0, 0, true));
        }
    }

    private static void clearAgainAndAgain() {
        Counted x = new Counted();
        for (int round = 0; round < 5; round++) {
            due.answers("refer behind clear(true)", 16, () -> x.refer(0xE4E4E4E4, 16));
            for (int i = 0; i < 24; i++) {
                int number = i;
                due.answers("finish()", number, () -> x.read(number % 16, Calls.INSERT, number % 4));
            }
            x.clear(true);
            due.answers("reads() behind clear(true)", 0, x::reads);
        }
    }
}
