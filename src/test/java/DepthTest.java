import java.util.ArrayList;
import java.util.List;

/** Promise 16: depth. */
public final class DepthTest {
    private static final Due due = new Due();

    public static void main(String[] args) {
        depthCountsWhatIsPassedOver();
        depthReadsUpToP();
        depthRefusesInOrder();
        bytesLeftBehindTheLastBlock();
        theShelfStays();
        due.end("DepthTest");
    }

    private static SlicedReads sixteen() {
        SlicedReads x = new SlicedReads();
        x.refer(0b11_10_01_00, 16);
        return x;
    }

    private static void depthCountsWhatIsPassedOver() {
        SlicedReads x = sixteen();
        Calls.read(x, 0, Calls.INSERT, 1, Calls.INSERT, 2);
        Calls.read(x, 1, Calls.MATCH, 2);
        Calls.read(x, 2, Calls.CHANGE, 0, Calls.REMOVE, 2, Calls.INSERT, 3);
        Calls.read(x, 4, Calls.REMOVE, 12, Calls.INSERT, 0);
        Calls.read(x, 16, Calls.INSERT, 0);
        due.answers("depth(2) with nothing packed", 0, () -> x.depth(2));
        x.pack();
        int[] want = {0, 1, 2, 1, 2, 1, 1, 1, 1, 1, 1, 1, 1, 1, 1, 1};
        for (int p = 0; p < want.length; p++) {
            int at = p;
            due.answers("depth(" + p + ")", want[p], () -> x.depth(at));
        }
        x.clear(false);
        due.answers("depth(2) when the reads are gone", 2, () -> x.depth(2));
        x.pack();
        due.answers("depth(2) when none is packed", 0, () -> x.depth(2));
    }

    private static void depthReadsUpToP() {
        SlicedReads x = sixteen();
        for (int i = 0; i < 9; i++) {
            Calls.read(x, i, Calls.MATCH, 8);
        }
        x.pack();
        int second = 5 + x.at(2);
        int third = second + 5 + x.at(second + 2);
        due.answers("depth(7)", 8, () -> x.depth(7));
        x.corrupt(third, 0);
        due.answers("depth(5) with block 2 wrong", 6, () -> x.depth(5));
        due.refuses("depth(6) with block 2 wrong", IllegalArgumentException.class, () -> x.depth(6));
        x.corrupt(third + 1, 7);
        due.answers("depth(6) with block 2 said to be at 7", 6, () -> x.depth(6));
        due.refuses("depth(7) with block 2 said to be at 7", IllegalArgumentException.class, () -> x.depth(7));
        x.corrupt(second + 1, 255);
        due.answers("depth(7) with block 1 said to be at 255", 3, () -> x.depth(7));
        x.corrupt(1, 9);
        due.answers("depth(8) with block 0 said to be at 9", 0, () -> x.depth(8));
        due.refuses("depth(9) with block 0 said to be at 9", IllegalArgumentException.class, () -> x.depth(9));
    }

    private static void depthRefusesInOrder() {
        SlicedReads x = sixteen();
        Calls.read(x, 0, Calls.MATCH, 8);
        x.pack();
        x.corrupt(0, 2);
        due.refuses("depth(-1)", IndexOutOfBoundsException.class, () -> x.depth(-1));
        due.refuses("depth(16)", IndexOutOfBoundsException.class, () -> x.depth(16));
        due.refuses("depth(MAX)", IndexOutOfBoundsException.class, () -> x.depth(Integer.MAX_VALUE));
        due.refuses("depth(MIN)", IndexOutOfBoundsException.class, () -> x.depth(Integer.MIN_VALUE));
        due.refuses("depth(0)", IllegalArgumentException.class, () -> x.depth(0));
        due.refuses("depth(15)", IllegalArgumentException.class, () -> x.depth(15));
    }

    /** A block that begins without a second byte is none whose second byte is greater than p. */
    private static void bytesLeftBehindTheLastBlock() {
        List<Integer> reference = new ArrayList<>();
        for (int i = 0; i < 16; i++) {
            reference.add(0);
        }
        for (int left = 1; left <= 3; left++) {
            SlicedReads x = new SlicedReads();
            x.refer(0, 16);
            int size = 0;
            int[] shorter = null;
            for (int longer = 2; longer <= 12 && shorter == null; longer++) {
                x.clear(false);
                Blocks.enter(x, inserts(longer));
                size = x.pack();
                shorter = blockOf(reference, size - left, longer);
            }
            Calls.overwrite(x, shorter);
            int last = size - 1;
            x.corrupt(last, 200);
            due.answers("blocks() with " + left + " bytes left", 2, x::blocks);
            if (left == 2) {
                due.answers("depth(3) with a second byte 200", 1, () -> x.depth(3));
                x.corrupt(last, 3);
                due.answers("depth(2) with a second byte 3", 1, () -> x.depth(2));
            }
            if (left == 3) {
                x.corrupt(last - 1, 3);
                due.answers("depth(2) with a second byte 3", 1, () -> x.depth(2));
            }
            due.refuses("depth(3) with " + left + " bytes left", IllegalArgumentException.class, () -> x.depth(3));
            due.answers("unpack(0) with " + left + " bytes left", 1, () -> x.unpack(0));
            due.refuses("unpack(1) with " + left + " bytes left", IllegalArgumentException.class, () -> x.unpack(1));
        }
    }

    private static ModelRead inserts(int count) {
        ModelRead read = new ModelRead(0);
        for (int i = 0; i < count - 1; i++) {
            read = read.with(Calls.INSERT, i % 4);
        }
        return read.with(Calls.MATCH, 8);
    }

    /** A block of just so many bytes, with fewer edits, or null. */
    private static int[] blockOf(List<Integer> reference, int size, int fewer) {
        for (int count = 1; count < fewer; count++) {
            int[] block = ModelBlock.bytesOf(reference, List.of(inserts(count)));
            if (block.length == size) {
                return block;
            }
        }
        return null;
    }

    private static void theShelfStays() {
        SlicedReads x = sixteen();
        for (int i = 0; i < 4; i++) {
            Calls.read(x, i, Calls.MATCH, i + 1);
        }
        int size = x.pack();
        x.unpack(1);
        due.answers("depth(3)", 2, () -> x.depth(3));
        due.answers("the shelf behind depth", 3, () -> x.about(0, 0, true));
        due.refuses("the shelf has one behind depth", IndexOutOfBoundsException.class, () -> x.about(1, 0, true));
        x.corrupt(size - 1, x.at(size - 1) ^ 1);
        due.refuses("depth(4) that is refused", IllegalArgumentException.class, () -> x.depth(4));
        due.answers("the shelf behind a refused depth", 3, () -> x.about(0, 0, true));
        due.answers("its bases behind a refused depth", 4, () -> x.about(0, 1, true));
    }
}
