/** The bounds of promises 4, 6 and 7: start, finish, reads; and of what 'Terms' says of how many reads there are. */
public final class ReadBoundsTest {
    private static final Due due = new Due();

    public static void main(String[] args) {
        positionsAre0ToTheReferencesEnd();
        positionsEndWithTheReferenceOfNow();
        aReadIsInPlaceOfTheOneUnderWay();
        aRefusedStartKeepsTheOneUnderWay();
        finishNeedsOneUnderWay();
        finishNeedsABase();
        atMost24Reads();
        aReadThatIsOneTooMany();
        noReadComesBeforeTooMany();
        readsAreCountedWhenFinished();
        due.end("ReadBoundsTest");
    }

    private static Twins having(int bases) {
        return new Twins(due, "with " + bases + " bases", x -> x.referring(bases));
    }

    /** So many reads of one base each, of which read i is an INSERT of i % 4 at i % 9. */
    private static void fill(Counted x, int reads) {
        x.referring(8);
        for (int i = 0; i < reads; i++) {
            x.read(i % 9, Calls.INSERT, i % 4);
        }
    }

    private static Twins filled(int reads) {
        return new Twins(due, "with " + reads + " reads", x -> fill(x, reads));
    }

    private static Twins filledAndUnderWay(int reads, int... edits) {
        return new Twins(due, "with " + reads + " reads and one under way", x -> {
            fill(x, reads);
            x.begin(3, edits);
        });
    }

    /** "IndexOutOfBoundsException when position is not 0 .. how many bases the reference has." */
    private static void positionsAre0ToTheReferencesEnd() {
        for (int bases : new int[] {0, 1, 2, 8, 159, 160}) {
            Twins some = having(bases);
            for (int position : new int[] {-1, -2, Integer.MIN_VALUE, bases + 1, bases + 2, 255, 256, Integer.MAX_VALUE}) {
                some.refuses("start(" + position + ")", IndexOutOfBoundsException.class, x -> x.start(position));
            }
            for (int position : new int[] {0, bases / 2, Math.max(0, bases - 1), bases}) {
                some.answers("the position behind start(" + position + ")", position,
                        x -> x.read(position, Calls.INSERT, 0) + x.about(0, 0, false));
            }
        }
    }

    private static void positionsEndWithTheReferenceOfNow() {
        Twins longer = new Twins(due, "with 8 bases and one more", x -> x.referring(8).refer(0, 1));
        longer.answers("start(9)", 0, x -> x.start(9));
        longer.refuses("start(10)", IndexOutOfBoundsException.class, x -> x.start(10));
        Twins gone = new Twins(due, "behind clear(true)", x -> x.referring(8).clear(true));
        gone.answers("start(0)", 0, x -> x.start(0));
        gone.refuses("start(1)", IndexOutOfBoundsException.class, x -> x.start(1));
        Twins kept = new Twins(due, "behind clear(false)", x -> x.referring(8).clear(false));
        kept.answers("start(8)", 0, x -> x.start(8));
        kept.refuses("start(9)", IndexOutOfBoundsException.class, x -> x.start(9));
    }

    /** "A read at a position is under way, in place of one that is." */
    private static void aReadIsInPlaceOfTheOneUnderWay() {
        Twins twice = new Twins(due, "behind a second start", x -> {
            x.referring(8).begin(1, Calls.MATCH, 3, Calls.REMOVE, 2);
            x.start(5);
        });
        twice.answers("reads()", 0, Counted::reads);
        twice.refuses("finish()", IllegalStateException.class, Counted::finish);
        int[] want = {5, 1, 1, 1};
        for (int i = 0; i < want.length; i++) {
            int what = i;
            twice.answers("about(0, " + what + ")", want[i],
                    x -> x.edit(Calls.MATCH, 1) + x.finish() + x.about(0, what, false));
        }
        twice.answers("the base", 1, x -> x.edit(Calls.MATCH, 1) + x.finish() + x.base(0, 0, false));
        // A MATCH of the read that went does not stand before the first MATCH of this one.
        Twins same = new Twins(due, "behind the same start twice", x -> {
            x.referring(8).begin(1, Calls.MATCH, 3);
            x.start(1);
        });
        same.answers("edits", 1, x -> x.edit(Calls.MATCH, 2) + x.finish() + x.about(0, 2, false));
        same.answers("bases", 2, x -> x.edit(Calls.MATCH, 2) + x.finish() + x.about(0, 1, false));
        same.answers("the number", 0, x -> x.edit(Calls.MATCH, 2) + x.finish());
    }

    private static void aRefusedStartKeepsTheOneUnderWay() {
        Twins one = new Twins(due, "with one under way", x -> x.referring(8).begin(1, Calls.MATCH, 3));
        Twins full = filledAndUnderWay(24, Calls.MATCH, 2);
        for (int position : new int[] {-1, 9, Integer.MIN_VALUE, Integer.MAX_VALUE}) {
            one.refuses("start(" + position + ")", IndexOutOfBoundsException.class, x -> x.start(position));
            full.refuses("start(" + position + ")", IndexOutOfBoundsException.class, x -> x.start(position));
        }
    }

    /** "IllegalStateException when none is under way". */
    private static void finishNeedsOneUnderWay() {
        for (int reads : new int[] {0, 1, 23, 24}) {
            filled(reads).refuses("finish()", IllegalStateException.class, Counted::finish);
        }
        new Twins(due, "behind clear(false)", x -> {
            x.referring(8).begin(1, Calls.MATCH, 3);
            x.clear(false);
        }).refuses("finish()", IllegalStateException.class, Counted::finish);
    }

    /** "or it has no bases": a read has "at least 1". */
    private static void finishNeedsABase() {
        Twins[] none = {
            filledAndUnderWay(0), filledAndUnderWay(0, Calls.REMOVE, 1), filledAndUnderWay(0, Calls.REMOVE, 5),
            filledAndUnderWay(1), filledAndUnderWay(23, Calls.REMOVE, 5),
        };
        for (Twins each : none) {
            each.refuses("finish()", IllegalStateException.class, Counted::finish);
        }
        int[][] one = {{Calls.MATCH, 1}, {Calls.CHANGE, 0}, {Calls.INSERT, 0}, {Calls.REMOVE, 5, Calls.INSERT, 0},
            {Calls.REMOVE, 4, Calls.MATCH, 1}};
        for (int[] edits : one) {
            filledAndUnderWay(0, edits).answers("finish()", 0, Counted::finish);
            filledAndUnderWay(0, edits).answers("bases", 1, x -> x.finish() + x.about(0, 1, false));
            filledAndUnderWay(7, edits).answers("finish()", 7, Counted::finish);
        }
    }

    /** "There are at most 24 reads; they have the numbers 0, 1, .. as they are finished." */
    private static void atMost24Reads() {
        filledAndUnderWay(22, Calls.MATCH, 2).answers("finish()", 22, Counted::finish);
        filledAndUnderWay(23, Calls.MATCH, 2).answers("finish()", 23, Counted::finish);
        filledAndUnderWay(24, Calls.MATCH, 2).refuses("finish()", UnsupportedOperationException.class, Counted::finish);
        filled(23).answers("reads()", 23, Counted::reads);
        filled(24).answers("reads()", 24, Counted::reads);
        filled(23).refuses("about(23, 0)", IndexOutOfBoundsException.class, x -> x.about(23, 0, false));
        filled(24).answers("about(23, 0)", 23 % 9, x -> x.about(23, 0, false));
        Counted full = filled(24).one();
        for (int i = 0; i < 24; i++) {
            int read = i;
            due.answers("position of read " + i, i % 9, () -> full.about(read, 0, false));
            due.answers("base of read " + i, i % 4, () -> full.base(read, 0, false));
        }
    }

    /** "UnsupportedOperationException when there are 24": it stays under way, and can go on. */
    private static void aReadThatIsOneTooMany() {
        Twins one = filledAndUnderWay(24, Calls.MATCH, 2);
        one.answers("reads()", 24, Counted::reads);
        one.refuses("about(24, 0)", IndexOutOfBoundsException.class, x -> x.about(24, 0, false));
        one.refuses("base(24, 0)", IndexOutOfBoundsException.class, x -> x.base(24, 0, false));
        one.answers("edit(2, 1)", 0, x -> x.edit(Calls.INSERT, 1));
        one.refuses("edit(0, 4)", IllegalArgumentException.class, x -> x.edit(Calls.MATCH, 4));
        one.answers("start(8)", 0, x -> x.start(8));
        Twins again = new Twins(due, "with 24 reads and a refused finish()", x -> {
            fill(x, 24);
            x.begin(3, Calls.MATCH, 2);
            due.refuses("finish() with 24", UnsupportedOperationException.class, x::finish);
        });
        again.refuses("finish()", UnsupportedOperationException.class, Counted::finish);
        again.answers("finish() of a first read behind clear(false)", 0,
                x -> x.clear(false) + x.read(8, Calls.INSERT, 1));
        Counted packed = again.one();
        due.alike("pack() of 24 alone", packed::pack, () -> filled(24).one().pack());
    }

    private static void noReadComesBeforeTooMany() {
        filled(24).refuses("finish()", IllegalStateException.class, Counted::finish);
        filledAndUnderWay(24).refuses("finish()", IllegalStateException.class, Counted::finish);
        filledAndUnderWay(24, Calls.REMOVE, 5).refuses("finish()", IllegalStateException.class, Counted::finish);
    }

    /** "How many reads there are": only those that are finished. */
    private static void readsAreCountedWhenFinished() {
        for (int reads : new int[] {0, 1, 2, 23, 24}) {
            filled(reads).answers("reads()", reads, Counted::reads);
            filledAndUnderWay(reads, Calls.MATCH, 2).answers("reads()", reads, Counted::reads);
            filled(reads).answers("reads() behind pack() and unpack(0)", reads,
                    x -> x.pack() * 0 + (reads > 0 ? x.unpack(0) * 0 : 0) + x.reads());
            filled(reads).answers("reads() behind clear(false)", 0, x -> x.clear(false) + x.reads());
            filled(reads).answers("reads() behind clear(true)", 0, x -> x.clear(true) + x.reads());
        }
    }
}
