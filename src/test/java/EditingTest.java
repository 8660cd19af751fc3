/** Promises 4, 5, 6 and 7: start, edit, finish, reads. */
public final class EditingTest {
    private static final Due due = new Due();

    public static void main(String[] args) {
        startAtTheEdges();
        startTakesThePlaceOfTheReadUnderWay();
        editRefusesWhatIsNoEdit();
        editEndsWithTheReference();
        editMakesLonger();
        editCountsBasesAndEdits();
        editRefusesInOrder();
        finishNeedsBases();
        thereAreAtMost24Reads();
        due.end("EditingTest");
    }

    /** A reference of eight bases, 0 1 2 3 0 1 2 3. */
    private static SlicedReads eight() {
        SlicedReads x = new SlicedReads();
        x.refer(0b1110_0100_1110_0100, 8);
        return x;
    }

    private static void startAtTheEdges() {
        SlicedReads empty = new SlicedReads();
        due.answers("start(0) without a reference", 0, () -> Calls.start(empty, 0));
        due.refuses("start(1) without a reference", IndexOutOfBoundsException.class, () -> Calls.start(empty, 1));
        SlicedReads x = eight();
        due.refuses("start(-1)", IndexOutOfBoundsException.class, () -> Calls.start(x, -1));
        due.refuses("start(9)", IndexOutOfBoundsException.class, () -> Calls.start(x, 9));
        due.refuses("start(MAX)", IndexOutOfBoundsException.class, () -> Calls.start(x, Integer.MAX_VALUE));
        due.refuses("edit behind refused starts", IllegalStateException.class, () -> Calls.edit(x, 2, 0));
        due.answers("start(8)", 0, () -> Calls.start(x, 8));
        due.answers("start(0)", 0, () -> Calls.start(x, 0));
    }

    private static void startTakesThePlaceOfTheReadUnderWay() {
        SlicedReads x = eight();
        x.start(1);
        x.edit(Calls.MATCH, 3);
        due.refuses("start(9) with one under way", IndexOutOfBoundsException.class, () -> Calls.start(x, 9));
        x.edit(Calls.INSERT, 2);
        due.answers("finish() behind a refused start", 0, x::finish);
        due.answers("bases behind a refused start", 4, () -> x.about(0, 1, false));
        x.start(1);
        x.edit(Calls.MATCH, 3);
        x.start(5);
        due.refuses("finish() behind a second start", IllegalStateException.class, x::finish);
        x.edit(Calls.MATCH, 1);
        x.finish();
        due.answers("position of the second start", 5, () -> x.about(1, 0, false));
        due.answers("bases of the second start", 1, () -> x.about(1, 1, false));
        due.answers("edits of the second start", 1, () -> x.about(1, 2, false));
        due.answers("passed over by the second start", 1, () -> x.about(1, 3, false));
    }

    private static void editRefusesWhatIsNoEdit() {
        SlicedReads x = eight();
        x.start(2);
        int[][] wrong = {
            {-1, 1}, {4, 1}, {Integer.MIN_VALUE, 1}, {Integer.MAX_VALUE, 1},
            {0, 0}, {0, -1}, {0, Integer.MIN_VALUE}, {0, Integer.MAX_VALUE}, {0, 7},
            {1, -1}, {1, 4}, {1, 2}, {1, Integer.MIN_VALUE},
            {2, -1}, {2, 4}, {2, Integer.MAX_VALUE},
            {3, 0}, {3, -1}, {3, 7}, {3, Integer.MAX_VALUE},
        };
        for (int[] each : wrong) {
            String call = "edit(" + each[0] + ", " + each[1] + ")";
            due.refuses(call, IllegalArgumentException.class, () -> Calls.edit(x, each[0], each[1]));
        }
        x.edit(Calls.CHANGE, 3);
        x.finish();
        due.answers("edits behind refused ones", 1, () -> x.about(0, 2, false));
        due.answers("the changed base", 3, () -> x.base(0, 0, false));
    }

    private static void editEndsWithTheReference() {
        SlicedReads x = eight();
        x.start(6);
        x.edit(Calls.MATCH, 2);
        due.refuses("MATCH behind the reference", IllegalArgumentException.class, () -> Calls.edit(x, 0, 1));
        due.refuses("CHANGE behind the reference", IllegalArgumentException.class, () -> Calls.edit(x, 1, 0));
        due.refuses("REMOVE behind the reference", IllegalArgumentException.class, () -> Calls.edit(x, 3, 1));
        due.answers("INSERT behind the reference", 0, () -> Calls.edit(x, 2, 0));
        due.answers("finish() behind the reference", 0, x::finish);
        due.answers("bases at the reference's end", 3, () -> x.about(0, 1, false));
    }

    private static void editMakesLonger() {
        SlicedReads x = eight();
        x.start(0);
        x.edit(Calls.MATCH, 1);
        x.edit(Calls.MATCH, 1);
        x.edit(Calls.REMOVE, 1);
        x.edit(Calls.REMOVE, 1);
        x.edit(Calls.MATCH, 1);
        x.edit(Calls.CHANGE, 0);
        x.edit(Calls.CHANGE, 0);
        x.edit(Calls.INSERT, 3);
        x.edit(Calls.INSERT, 3);
        x.finish();
        due.answers("edits, two of them longer", 7, () -> x.about(0, 2, false));
        due.answers("bases", 7, () -> x.about(0, 1, false));
        due.answers("passed over", 7, () -> x.about(0, 3, false));
        int[] want = {0, 1, 0, 0, 0, 3, 3};
        for (int k = 0; k < want.length; k++) {
            int at = k;
            due.answers("base " + k, want[k], () -> x.base(0, at, false));
        }
    }

    private static void editCountsBasesAndEdits() {
        SlicedReads x = new SlicedReads();
        for (int i = 0; i < 10; i++) {
            x.refer(0, 16);
        }
        x.start(0);
        due.refuses("MATCH 21", UnsupportedOperationException.class, () -> Calls.edit(x, 0, 21));
        due.refuses("MATCH 160", UnsupportedOperationException.class, () -> Calls.edit(x, 0, 160));
        due.answers("MATCH 19", 0, () -> Calls.edit(x, 0, 19));
        due.refuses("MATCH 2 behind 19", UnsupportedOperationException.class, () -> Calls.edit(x, 0, 2));
        due.answers("MATCH 1 behind 19", 0, () -> Calls.edit(x, 0, 1));
        due.refuses("MATCH 1 behind 20", UnsupportedOperationException.class, () -> Calls.edit(x, 0, 1));
        due.refuses("CHANGE behind 20", UnsupportedOperationException.class, () -> Calls.edit(x, 1, 1));
        due.refuses("INSERT behind 20", UnsupportedOperationException.class, () -> Calls.edit(x, 2, 1));
        due.answers("REMOVE behind 20", 0, () -> Calls.edit(x, 3, 140));
        due.answers("finish() of 20 bases", 0, x::finish);
        due.answers("20 bases", 20, () -> x.about(0, 1, false));
        due.answers("160 passed over", 160, () -> x.about(0, 3, false));
        x.start(0);
        for (int i = 0; i < 11; i++) {
            x.edit(Calls.INSERT, i % 4);
        }
        x.edit(Calls.REMOVE, 1);
        due.refuses("INSERT behind 12 edits", UnsupportedOperationException.class, () -> Calls.edit(x, 2, 1));
        due.refuses("CHANGE behind 12 edits", UnsupportedOperationException.class, () -> Calls.edit(x, 1, 1));
        due.refuses("MATCH behind 12 edits", UnsupportedOperationException.class, () -> Calls.edit(x, 0, 1));
        due.answers("REMOVE that makes the 12th longer", 0, () -> Calls.edit(x, 3, 158));
        due.answers("finish() of 12 edits", 1, x::finish);
        due.answers("12 edits", 12, () -> x.about(1, 2, false));
        due.answers("159 passed over", 159, () -> x.about(1, 3, false));
    }

    private static void editRefusesInOrder() {
        SlicedReads x = eight();
        due.refuses("no edit, none under way", IllegalStateException.class, () -> Calls.edit(x, 9, 9));
        x.start(0);
        for (int i = 0; i < 12; i++) {
            x.edit(Calls.INSERT, 0);
        }
        due.refuses("no edit, behind 12", IllegalArgumentException.class, () -> Calls.edit(x, 4, 0));
        due.refuses("INSERT 4 behind 12", IllegalArgumentException.class, () -> Calls.edit(x, 2, 4));
        due.refuses("MATCH 9 of 8 behind 12", IllegalArgumentException.class, () -> Calls.edit(x, 0, 9));
        due.refuses("MATCH 8 of 8 behind 12", UnsupportedOperationException.class, () -> Calls.edit(x, 0, 8));
    }

    private static void finishNeedsBases() {
        SlicedReads x = eight();
        due.refuses("finish() with none under way", IllegalStateException.class, x::finish);
        x.start(0);
        due.refuses("finish() without edits", IllegalStateException.class, x::finish);
        x.edit(Calls.REMOVE, 8);
        due.refuses("finish() without bases", IllegalStateException.class, x::finish);
        due.answers("reads() without any", 0, x::reads);
        x.edit(Calls.INSERT, 2);
        due.answers("finish() with a base", 0, x::finish);
        due.answers("reads() with one", 1, x::reads);
        due.refuses("finish() twice", IllegalStateException.class, x::finish);
        due.refuses("edit behind finish()", IllegalStateException.class, () -> Calls.edit(x, 2, 0));
    }

    private static void thereAreAtMost24Reads() {
        SlicedReads x = eight();
        for (int i = 0; i < 24; i++) {
            int want = i;
            due.answers("finish()", want, () -> Calls.read(x, want % 8, Calls.INSERT, want % 4));
        }
        due.refuses("finish() with 24, none under way", IllegalStateException.class, x::finish);
        due.answers("start() with 24", 0, () -> Calls.start(x, 3));
        due.refuses("finish() with 24, no bases", IllegalStateException.class, x::finish);
        due.answers("edit with 24", 0, () -> Calls.edit(x, 0, 2));
        due.refuses("finish() with 24", UnsupportedOperationException.class, x::finish);
        due.refuses("finish() with 24 again", UnsupportedOperationException.class, x::finish);
        due.answers("reads() with 24", 24, x::reads);
        due.refuses("about(24, 0, false)", IndexOutOfBoundsException.class, () -> x.about(24, 0, false));
        for (int i = 0; i < 24; i++) {
            int read = i;
            due.answers("position of read " + i, i % 8, () -> x.about(read, 0, false));
            due.answers("base of read " + i, i % 4, () -> x.base(read, 0, false));
        }
        x.clear(false);
        due.answers("reads() behind clear", 0, x::reads);
        due.refuses("finish() behind clear", IllegalStateException.class, x::finish);
    }
}
