/** Promises 1, 2 and 3: a new object, refer, clear. */
public final class NewObjectTest {
    private static final Due due = new Due();

    public static void main(String[] args) {
        newObject();
        referTakesTheLowestBitsFirst();
        referRefusesInOrder();
        clearKeepsWhatItMust();
        clearAllTakesReferenceAndShelf();
        due.end("NewObjectTest");
    }

    private static void newObject() {
        SlicedReads x = new SlicedReads();
        due.equal("NONE", SlicedReads.NONE, -1);
        due.answers("reads() of a new object", 0, x::reads);
        due.answers("blocks() of a new object", 0, x::blocks);
        due.answers("size() of a new object", 0, x::size);
        due.refuses("finish() of a new object", IllegalStateException.class, x::finish);
        due.refuses("about(0, 0, true) of a new object", IndexOutOfBoundsException.class, () -> x.about(0, 0, true));
        due.refuses("about(0, 0, false) of a new object", IndexOutOfBoundsException.class, () -> x.about(0, 0, false));
        due.refuses("at(0) of a new object", IndexOutOfBoundsException.class, () -> x.at(0));
        due.refuses("depth(0) of a new object", IndexOutOfBoundsException.class, () -> x.depth(0));
        due.refuses("start(1) of a new object", IndexOutOfBoundsException.class, () -> Calls.start(x, 1));
    }

    private static void referTakesTheLowestBitsFirst() {
        SlicedReads x = new SlicedReads();
        due.answers("refer(0b11_01_10_00, 3)", 3, () -> x.refer(0b11_01_10_00, 3));
        due.answers("refer(0xC0000002, 16)", 19, () -> x.refer(0xC0000002, 16));
        x.start(0);
        x.edit(Calls.MATCH, 19);
        x.finish();
        int[] want = {0, 2, 1, 2, 0, 0, 0, 0, 0, 0, 0, 0, 0, 0, 0, 0, 0, 0, 3};
        for (int k = 0; k < want.length; k++) {
            int at = k;
            due.answers("base " + k + " of the reference", want[k], () -> x.base(0, at, false));
        }
    }

    private static void referRefusesInOrder() {
        SlicedReads x = new SlicedReads();
        for (int i = 1; i <= 9; i++) {
            int want = 16 * i;
            due.answers("refer 16 more", want, () -> x.refer(-1, 16));
        }
        due.answers("refer 15 more", 159, () -> x.refer(-1, 15));
        due.refuses("refer over 160", UnsupportedOperationException.class, () -> x.refer(0, 2));
        due.answers("refer up to 160", 160, () -> x.refer(0, 1));
        due.refuses("refer at 160", UnsupportedOperationException.class, () -> x.refer(0, 1));
        due.refuses("refer n = 17 at 160", IllegalArgumentException.class, () -> x.refer(0, 17));
        x.start(160);
        due.refuses("refer with one under way, at 160", IllegalStateException.class, () -> x.refer(0, 1));
        due.refuses("refer n = 0 with one under way", IllegalArgumentException.class, () -> x.refer(0, 0));
        x.edit(Calls.INSERT, 0);
        x.finish();
        due.refuses("refer with a read", IllegalStateException.class, () -> x.refer(0, 1));
        due.refuses("refer n = -1 with a read", IllegalArgumentException.class, () -> x.refer(0, -1));
        due.refuses("refer n = MIN", IllegalArgumentException.class, () -> x.refer(0, Integer.MIN_VALUE));
        due.refuses("refer n = MAX", IllegalArgumentException.class, () -> x.refer(0, Integer.MAX_VALUE));
    }

    private static void clearKeepsWhatItMust() {
        SlicedReads x = packedAndUnpacked();
        int size = x.size();
        x.start(1);
        x.clear(false);
        due.answers("reads() behind clear(false)", 0, x::reads);
        due.refuses("finish() behind clear(false)", IllegalStateException.class, x::finish);
        due.refuses("edit behind clear(false)", IllegalStateException.class, () -> Calls.edit(x, Calls.INSERT, 0));
        due.answers("size() behind clear(false)", size, x::size);
        due.answers("the shelf behind clear(false)", 4, () -> x.about(0, 1, true));
        due.answers("the reference behind clear(false)", 9, () -> x.refer(0, 1));
        due.answers("unpack(0) behind clear(false)", 1, () -> x.unpack(0));
        due.answers("the next number behind clear(false)", 0, () -> Calls.read(x, 0, Calls.INSERT, 1));
    }

    private static void clearAllTakesReferenceAndShelf() {
        SlicedReads x = packedAndUnpacked();
        int size = x.size();
        x.start(1);
        x.clear(true);
        due.answers("reads() behind clear(true)", 0, x::reads);
        due.refuses("finish() behind clear(true)", IllegalStateException.class, x::finish);
        due.refuses("the shelf behind clear(true)", IndexOutOfBoundsException.class, () -> x.about(0, 1, true));
        due.refuses("depth(0) behind clear(true)", IndexOutOfBoundsException.class, () -> x.depth(0));
        due.answers("size() behind clear(true)", size, x::size);
        due.answers("blocks() behind clear(true)", 1, x::blocks);
        due.refuses("unpack(0) without the reference", IllegalArgumentException.class, () -> x.unpack(0));
        due.answers("the reference behind clear(true)", 8, () -> x.refer(0b1110_0100_1110_0100, 8));
        due.answers("unpack(0) with the reference again", 1, () -> x.unpack(0));
        due.answers("pack() without reads", 0, x::pack);
    }

    /** One read of four bases, in the archive and on the shelf. */
    private static SlicedReads packedAndUnpacked() {
        SlicedReads x = new SlicedReads();
        x.refer(0b1110_0100_1110_0100, 8);
        Calls.read(x, 2, Calls.MATCH, 4);
        x.pack();
        x.unpack(0);
        return x;
    }
}
