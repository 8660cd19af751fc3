import java.util.ArrayList;
import java.util.Arrays;
import java.util.List;

/** The bounds of promise 16: depth. */
public final class DepthBoundsTest {
    private static final Due due = new Due();
    private static final Class<IllegalArgumentException> UNSOUND = IllegalArgumentException.class;
    private static final Class<IndexOutOfBoundsException> NO_BASE = IndexOutOfBoundsException.class;
    private static final Twins THREE = new Twins(due, "of three blocks", DepthBoundsTest::three);
    /** Where the second and the third of them begin. */
    private static final int SECOND = second(THREE.one());
    private static final int THIRD = third(THREE.one());

    public static void main(String[] args) {
        basesOfTheReference();
        noBaseComesBeforeUnsound();
        fromThePositionToTheLastPassedOver();
        byAnyEdits();
        nothingIsPassedOver();
        ofTheArchive();
        manyReads();
        upToTheFirstWhoseSecondByteIsGreater();
        theOneThatIsGreaterIsNotRead();
        thoseBehindItAreNotRead();
        thoseBeforeItAreRead();
        oneThatIsNotSound();
        bytesLeftAtTheEnd();
        theReferenceOfNow();
        theShelfStays();
        due.end("DepthBoundsTest");
    }

    /** "IndexOutOfBoundsException when the reference has no base p". */
    private static void basesOfTheReference() {
        for (int bases : new int[] {0, 1, 2, 159, 160}) {
            Twins empty = new Twins(due, "with " + bases + " bases", x -> x.referring(bases));
            Twins packed = new Twins(due, "with " + bases + " bases and a read", x -> {
                x.referring(bases).read(bases, Calls.INSERT, 0);
                x.read(Math.max(0, bases - 1), Calls.INSERT, 1);
                x.pack();
                x.unpack(0);
            });
            for (int p : new int[] {-1, -2, Integer.MIN_VALUE, bases, bases + 1, 255, Integer.MAX_VALUE}) {
                empty.refuses("depth(" + p + ")", NO_BASE, x -> x.depth(p));
                packed.refuses("depth(" + p + ")", NO_BASE, x -> x.depth(p));
            }
            if (bases > 0) {
                empty.answers("depth(0)", 0, x -> x.depth(0));
                empty.answers("depth of the last base", 0, x -> x.depth(bases - 1));
                packed.answers("depth(0)", 0, x -> x.depth(0));
                packed.answers("depth of the last base", 0, x -> x.depth(bases - 1));
            }
        }
    }

    private static void noBaseComesBeforeUnsound() {
        Twins wrong = new Twins(due, "with a block that is not sound", x -> {
            x.referring(8).read(0, Calls.MATCH, 8);
            x.pack();
            x.corrupt(0, 2);
        });
        for (int p : new int[] {-1, 8, Integer.MIN_VALUE, Integer.MAX_VALUE}) {
            wrong.refuses("depth(" + p + ")", NO_BASE, x -> x.depth(p));
        }
        for (int p : new int[] {0, 1, 7}) {
            wrong.refuses("depth(" + p + ")", UNSOUND, x -> x.depth(p));
        }
    }

    /** One read, and how many bases from where on it passes over: depth is 1 there and 0 elsewhere. */
    private static void covers(int bases, int from, int count, int... read) {
        Counted x = new Counted().referring(bases);
        x.enter(new ModelRead(read[0], Arrays.copyOfRange(read, 1, read.length)));
        x.pack();
        for (int p = 0; p < bases; p++) {
            int at = p;
            due.answers("depth(" + p + ") of a read from " + from + " over " + count, p >= from && p < from + count ? 1 : 0,
                    () -> x.depth(at));
        }
    }

    /** "How many reads of the archive pass over base p of the reference". */
    private static void fromThePositionToTheLastPassedOver() {
        covers(8, 0, 1, 0, Calls.MATCH, 1);
        covers(8, 7, 1, 7, Calls.MATCH, 1);
        covers(8, 0, 8, 0, Calls.MATCH, 8);
        covers(8, 3, 2, 3, Calls.MATCH, 2);
        covers(160, 0, 160, 0, Calls.MATCH, 20, Calls.REMOVE, 140);
        covers(160, 159, 1, 159, Calls.MATCH, 1);
        covers(160, 140, 20, 140, Calls.MATCH, 20);
    }

    /** "by any edits". */
    private static void byAnyEdits() {
        covers(8, 3, 2, 3, Calls.CHANGE, 0, Calls.CHANGE, 1);
        covers(8, 3, 4, 3, Calls.REMOVE, 4, Calls.INSERT, 0);
        covers(8, 3, 4, 3, Calls.INSERT, 0, Calls.REMOVE, 4);
        covers(8, 2, 4, 2, Calls.MATCH, 1, Calls.REMOVE, 1, Calls.CHANGE, 3, Calls.INSERT, 2, Calls.MATCH, 1);
        covers(8, 0, 8, 0, Calls.REMOVE, 8, Calls.INSERT, 2);
        covers(160, 0, 160, 0, Calls.REMOVE, 160, Calls.INSERT, 2);
    }

    /** INSERT passes over none. */
    private static void nothingIsPassedOver() {
        covers(8, 0, 0, 0, Calls.INSERT, 1);
        covers(8, 0, 0, 3, Calls.INSERT, 1, Calls.INSERT, 1);
        covers(8, 0, 0, 8, Calls.INSERT, 1);
        covers(8, 3, 1, 3, Calls.INSERT, 1, Calls.MATCH, 1, Calls.INSERT, 1);
    }

    /** Not of the reads that there are, nor of those on the shelf. */
    private static void ofTheArchive() {
        Twins reads = new Twins(due, "with reads alone", x -> x.referring(8).read(2, Calls.MATCH, 3));
        reads.answers("depth(2)", 0, x -> x.depth(2));
        reads.answers("depth(2) behind pack()", 1, x -> x.pack() * 0 + x.depth(2));
        reads.answers("depth(2) behind clear(false)", 1, x -> x.pack() * 0 + x.clear(false) + x.depth(2));
        reads.answers("depth(2) with one more, not packed", 1,
                x -> x.pack() * 0 + x.read(2, Calls.MATCH, 3) * 0 + x.depth(2));
        reads.answers("depth(2) with a shelf and no archive", 0,
                x -> x.pack() * 0 + x.unpack(0) * 0 + x.clear(false) + x.pack() + x.depth(2));
    }

    private static void manyReads() {
        for (int reads : new int[] {1, 2, 3, 4, 23, 24}) {
            Counted x = new Counted().referring(160);
            for (int i = 0; i < reads; i++) {
                x.read(i, Calls.REMOVE, 100, Calls.INSERT, i % 4);
            }
            x.pack();
            due.answers("depth of all of " + reads, reads, () -> x.depth(50));
            due.answers("depth at the first's position", 1, () -> x.depth(0));
            due.answers("depth before the last's position", Math.max(reads - 1, 1), () -> x.depth(Math.max(0, reads - 2)));
            due.answers("depth at the last's position", reads, () -> x.depth(reads - 1));
            due.answers("depth at the first's last base", reads, () -> x.depth(99));
            due.answers("depth behind the first's last base", reads - 1, () -> x.depth(100));
            due.answers("depth at the last's last base", 1, () -> x.depth(98 + reads));
            due.answers("depth behind the last's last base", 0, () -> x.depth(99 + reads));
        }
    }

    /** Three blocks, at 2, 5 and 8, whose reads pass over six bases each; block 0 is on the shelf. */
    private static void three(Counted x) {
        x.referring(16);
        for (int i = 0; i < 9; i++) {
            x.read(2 + i, Calls.MATCH, 6);
        }
        x.pack();
        x.unpack(0);
    }

    private static int second(Counted x) {
        return 5 + x.at(2);
    }

    private static int third(Counted x) {
        int second = second(x);
        return second + 5 + x.at(second + 2);
    }

    private static Twins corrupt(String name, int... bytes) {
        return new Twins(due, name, x -> {
            three(x);
            for (int i = 0; i + 1 < bytes.length; i += 2) {
                x.corrupt(bytes[i], bytes[i + 1]);
            }
        });
    }

    /** "up to the first whose second byte is greater than p". */
    private static void upToTheFirstWhoseSecondByteIsGreater() {
        int[] want = {0, 0, 1, 2, 3, 4, 5, 6, 6, 6, 6, 5, 4, 3, 2, 1};
        for (int p = 0; p < want.length; p++) {
            int at = p;
            THREE.answers("depth(" + p + ")", want[p], x -> x.depth(at));
        }
        // The second byte is one less than p, p, and one more; where it is not so, the block is not sound any more.
        for (int p = 9; p <= 11; p++) {
            int at = p;
            Twins same = corrupt("with block 2 said to be at " + p, THIRD + 1, p);
            same.answers("depth(" + (p - 1) + ")", new int[] {5, 4, 3}[p - 9], x -> x.depth(at - 1));
            same.refuses("depth(" + p + ")", UNSOUND, x -> x.depth(at));
            same.refuses("depth(" + (p + 1) + ")", UNSOUND, x -> x.depth(at + 1));
        }
        Twins last = corrupt("with block 2 said to be at 255", THIRD + 1, 255);
        last.answers("depth(15)", 0, x -> x.depth(15));
        last.answers("depth(10)", 3, x -> x.depth(10));
        Twins first = corrupt("with block 0 said to be at 16", 1, 16);
        first.answers("depth(15)", 0, x -> x.depth(15));
        first.answers("depth(0)", 0, x -> x.depth(0));
        Twins fifteen = corrupt("with block 0 said to be at 15", 1, 15);
        fifteen.answers("depth(14)", 0, x -> x.depth(14));
        fifteen.refuses("depth(15)", UNSOUND, x -> x.depth(15));
    }

    /** "(it and those behind it are not)": the one that is greater may be wrong. */
    private static void theOneThatIsGreaterIsNotRead() {
        Twins wrong = corrupt("with block 2 wrong", THIRD, 0);
        wrong.answers("depth(6)", 5, x -> x.depth(6));
        wrong.answers("depth(7)", 6, x -> x.depth(7));
        wrong.refuses("depth(8)", UNSOUND, x -> x.depth(8));
        wrong.refuses("depth(9)", UNSOUND, x -> x.depth(9));
        wrong.refuses("depth(15)", UNSOUND, x -> x.depth(15));
        Twins middle = corrupt("with block 1 wrong", SECOND, 0);
        middle.answers("depth(4)", 3, x -> x.depth(4));
        middle.refuses("depth(5)", UNSOUND, x -> x.depth(5));
        middle.refuses("depth(6)", UNSOUND, x -> x.depth(6));
        Twins first = corrupt("with block 0 wrong", 0, 0);
        first.answers("depth(0)", 0, x -> x.depth(0));
        first.answers("depth(1)", 0, x -> x.depth(1));
        first.refuses("depth(2)", UNSOUND, x -> x.depth(2));
        first.refuses("depth(15)", UNSOUND, x -> x.depth(15));
    }

    private static void thoseBehindItAreNotRead() {
        // Block 1 ends the reading, so that block 2 is not read though its second byte is not greater.
        Twins early = corrupt("with block 1 said to be at 12", SECOND + 1, 12);
        early.answers("depth(11)", 0, x -> x.depth(11));
        early.answers("depth(8)", 2, x -> x.depth(8));
        early.refuses("depth(12)", UNSOUND, x -> x.depth(12));
        Twins wrong = corrupt("with block 1 said to be at 12 and block 2 wrong", SECOND + 1, 12, THIRD, 0);
        wrong.answers("depth(8)", 2, x -> x.depth(8));
        Twins low = corrupt("with block 2 said to be at 0, behind one at 12", SECOND + 1, 12, THIRD + 1, 0);
        low.answers("depth(8)", 2, x -> x.depth(8));
    }

    /** A block whose second byte is not greater is read, even if one before it has a greater position. */
    private static void thoseBeforeItAreRead() {
        Twins low = corrupt("with block 2 said to be at 0", THIRD + 1, 0);
        low.answers("depth(1)", 0, x -> x.depth(1));
        low.answers("depth(4)", 3, x -> x.depth(4));
        low.refuses("depth(5)", UNSOUND, x -> x.depth(5));
        low.refuses("depth(7)", UNSOUND, x -> x.depth(7));
        // Sound blocks in falling order: the first ends the reading for all p below its position.
        List<Integer> reference = new ArrayList<>();
        for (int i = 0; i < 16; i++) {
            reference.add(i % 4);
        }
        int[] high = ModelBlock.bytesOf(reference, List.of(new ModelRead(9, Calls.MATCH, 3)));
        int[] then = ModelBlock.bytesOf(reference, List.of(new ModelRead(4, Calls.MATCH, 8)));
        Counted x = THREE.one();
        x.overwrite(0, high);
        x.overwrite(high.length, then);
        // What is left of the three blocks is said to be at 255.
        x.corrupt(high.length + then.length + 1, 255);
        int[] want = {0, 0, 0, 0, 0, 0, 0, 0, 0, 2, 2, 2, 0, 0, 0, 0};
        for (int p = 0; p < want.length; p++) {
            int at = p;
            due.answers("depth(" + p + ") of blocks that fall", want[p], () -> x.depth(at));
        }
    }

    /** "IllegalArgumentException when one that is read is not sound": with any byte wrong but the second. */
    private static void oneThatIsNotSound() {
        int[] begins = {0, SECOND, THIRD};
        int[] before = {1, 4, 7};
        int[] want = {0, 3, 6};
        int[] bytes = THREE.one().archive();
        for (int k = 0; k < bytes.length; k++) {
            int block = k < SECOND ? 0 : k < THIRD ? 1 : 2;
            if (k != begins[block] + 1) {
                Twins wrong = corrupt("with byte " + k + " wrong", k, bytes[k] ^ 1);
                wrong.answers("depth before its block", want[block], x -> x.depth(before[block]));
                wrong.refuses("depth at its block", UNSOUND, x -> x.depth(before[block] + 1));
                wrong.refuses("depth(15)", UNSOUND, x -> x.depth(15));
            }
        }
    }

    /**
     * A sound block, and one to four bytes behind it. A block that begins without a second byte is none whose second
     * byte is greater, so it is read, and it is not sound, as its bytes are not all there.
     */
    private static void bytesLeftAtTheEnd() {
        for (int left = 1; left <= 4; left++) {
            Counted x = endingWith(left);
            int size = x.size();
            int begin = size - left;
            due.answers("blocks() with " + left + " left", 2, x::blocks);
            due.answers("unpack(0) with " + left + " left", 1, () -> x.unpack(0));
            due.refuses("unpack(1) with " + left + " left", UNSOUND, () -> x.unpack(1));
            x.corrupt(begin, 255);
            if (left == 1) {
                due.refuses("depth(0) with one left", UNSOUND, () -> x.depth(0));
                due.refuses("depth(7) with one left", UNSOUND, () -> x.depth(7));
                x.corrupt(begin, 0);
                due.refuses("depth(0) with a byte 0 left", UNSOUND, () -> x.depth(0));
                continue;
            }
            x.corrupt(begin + 1, 3);
            due.answers("depth(2) with " + left + " left", 1, () -> x.depth(2));
            due.refuses("depth(3) with " + left + " left", UNSOUND, () -> x.depth(3));
            due.refuses("depth(4) with " + left + " left", UNSOUND, () -> x.depth(4));
            x.corrupt(begin + 1, 255);
            due.answers("depth(7) with " + left + " left, said to be at 255", 1, () -> x.depth(7));
            x.corrupt(begin + 1, 0);
            due.refuses("depth(0) with " + left + " left, said to be at 0", UNSOUND, () -> x.depth(0));
        }
    }

    /** An archive of one sound block, of a read that passes over 0 .. 7, and so many bytes behind it. */
    private static Counted endingWith(int left) {
        int size = 12;
        List<Integer> reference = List.of(0, 1, 2, 3, 0, 1, 2, 3);
        ModelRead over = Blocks.lengthened(reference, new ModelRead(0, Calls.MATCH, 8), size);
        Counted x = new Counted().referring(8);
        // There were more bytes once, all 255: none of them may be taken for a second byte now.
        for (int i = 0; i < 4; i++) {
            x.read(i, Calls.MATCH, 2, Calls.INSERT, i, Calls.REMOVE, 1, Calls.INSERT, 3);
        }
        int before = x.pack();
        due.equal("there were more bytes once", before > size + left ? 1 : 0, 1);
        for (int k = 0; k < before; k++) {
            x.corrupt(k, 255);
        }
        x.clear(false);
        x.enter(Blocks.lengthened(reference, new ModelRead(0), size + left));
        due.answers("pack() of a longer block", size + left, x::pack);
        x.overwrite(0, ModelBlock.bytesOf(reference, List.of(over)));
        return x;
    }

    /** A block that was sound need not be so with another reference. */
    private static void theReferenceOfNow() {
        Twins shorter = new Twins(due, "with a shorter reference", x -> {
            three(x);
            x.clear(true);
            x.referring(13);
        });
        // Block 1 needs thirteen bases, block 2 needs sixteen.
        shorter.answers("depth(7)", 6, x -> x.depth(7));
        shorter.refuses("depth(8)", UNSOUND, x -> x.depth(8));
        shorter.refuses("depth(12)", UNSOUND, x -> x.depth(12));
        shorter.refuses("depth(13)", NO_BASE, x -> x.depth(13));
        Twins tooShort = new Twins(due, "with a reference one base too short", x -> {
            three(x);
            x.clear(true);
            x.referring(12);
        });
        tooShort.answers("depth(4)", 3, x -> x.depth(4));
        tooShort.refuses("depth(5)", UNSOUND, x -> x.depth(5));
        Twins enough = new Twins(due, "with the reference again", x -> {
            three(x);
            x.clear(true);
            x.referring(16);
        });
        enough.answers("depth(8)", 6, x -> x.depth(8));
        enough.answers("depth(15)", 1, x -> x.depth(15));
        enough.refuses("depth(16)", NO_BASE, x -> x.depth(16));
        Twins longer = new Twins(due, "with a longer reference", x -> {
            three(x);
            x.clear(false);
            x.referring(4);
        });
        longer.answers("depth(16)", 0, x -> x.depth(16));
        longer.answers("depth(19)", 0, x -> x.depth(19));
        longer.refuses("depth(20)", NO_BASE, x -> x.depth(20));
    }

    /** "The shelf stays as it is." */
    private static void theShelfStays() {
        for (int block = -1; block < 3; block++) {
            for (int p = 0; p < 16; p += 3) {
                int at = p;
                Counted x = new Counted();
                three(x);
                x.clear(true);
                x.referring(16);
                if (block >= 0) {
                    x.unpack(block);
                }
                due.alike("depth(" + p + ")", () -> x.depth(at), () -> THREE.one().depth(at));
                for (int i = 0; i < 3; i++) {
                    int read = i;
                    int position = 2 + 3 * block + i;
                    if (block < 0) {
                        due.refuses("the shelf behind depth", NO_BASE, () -> x.about(read, 0, true));
                    } else {
                        due.answers("position behind depth", position, () -> x.about(read, 0, true));
                        due.answers("bases behind depth", 6, () -> x.about(read, 1, true));
                        due.answers("base behind depth", position % 4, () -> x.base(read, 0, true));
                    }
                }
            }
        }
    }
}
