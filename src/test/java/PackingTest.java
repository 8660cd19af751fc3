import java.util.ArrayList;
import java.util.Arrays;
import java.util.List;

/** Promises 10 to 14: pack, blocks, size, at, corrupt. */
public final class PackingTest {
    private static final Due due = new Due();

    public static void main(String[] args) {
        packWithoutReads();
        packIsAsTheDocumentTells();
        blocksTakeThreeByPosition();
        packTakesThePlaceOfTheArchive();
        theArchiveHasEdges();
        blocksAreToldByThoseBefore();
        theFullestBlocks();
        due.end("PackingTest");
    }

    private static void packWithoutReads() {
        SlicedReads x = new SlicedReads();
        due.answers("pack() of nothing", 0, x::pack);
        x.refer(0, 4);
        x.start(0);
        x.edit(Calls.MATCH, 4);
        due.answers("pack() with one only under way", 0, x::pack);
        due.answers("size()", 0, x::size);
        due.answers("blocks()", 0, x::blocks);
        due.answers("finish() behind pack()", 0, x::finish);
    }

    /** Its row was made by hand: the number 0, MATCH, the number 0 and END are the bits 0 0 0 1 0. */
    private static void packIsAsTheDocumentTells() {
        SlicedReads x = new SlicedReads();
        x.refer(0, 1);
        Calls.read(x, 0, Calls.MATCH, 1);
        long range = 0xFFFFFFFFL;
        range = range / 2048 * 1024;
        range = range / 2048 * 1024;
        range = range / 2048 * 1024;
        long low = range / 2048 * 1024;
        int[] row = {(int) (low >> 24), (int) (low >> 16) & 255, (int) (low >> 8) & 255, (int) low & 255};
        int length = row[3] == 0 ? 3 : 4;
        x.pack();
        bytes(x, ModelBlock.framed(1, 0, Arrays.copyOf(row, length)));
    }

    private static void blocksTakeThreeByPosition() {
        List<Integer> reference = new ArrayList<>();
        SlicedReads x = new SlicedReads();
        for (int i = 0; i < 8; i++) {
            Blocks.refer(x, reference, 0x1B2D8E47 * (i + 1));
        }
        int[] positions = {90, 5, 128, 5, 0, 127, 5};
        List<ModelRead> reads = new ArrayList<>();
        for (int i = 0; i < positions.length; i++) {
            reads.add(new ModelRead(positions[i], Calls.INSERT, i % 4, Calls.INSERT, i / 4));
            Calls.read(x, positions[i], Calls.INSERT, i % 4, Calls.INSERT, i / 4);
        }
        int[][] blocks = {{4, 1, 3}, {6, 0, 5}, {2}};
        List<Integer> want = new ArrayList<>();
        for (int[] block : blocks) {
            List<ModelRead> some = new ArrayList<>();
            for (int number : block) {
                some.add(reads.get(number));
            }
            for (int each : ModelBlock.bytesOf(reference, some)) {
                want.add(each);
            }
        }
        due.answers("pack() of seven", want.size(), x::pack);
        due.answers("blocks() of seven", 3, x::blocks);
        due.answers("reads() behind pack()", 7, x::reads);
        due.answers("position of read 0 behind pack()", 90, () -> x.about(0, 0, false));
        bytes(x, want.stream().mapToInt(Integer::intValue).toArray());
    }

    private static void packTakesThePlaceOfTheArchive() {
        SlicedReads x = new SlicedReads();
        x.refer(0b11_10_01_00, 4);
        Calls.read(x, 1, Calls.MATCH, 3);
        x.pack();
        int[] first = Calls.archive(x);
        Calls.read(x, 0, Calls.MATCH, 4);
        Calls.read(x, 0, Calls.MATCH, 4);
        Calls.read(x, 0, Calls.MATCH, 4);
        x.pack();
        due.answers("blocks() of four", 2, x::blocks);
        x.clear(false);
        Calls.read(x, 1, Calls.MATCH, 3);
        x.pack();
        due.answers("blocks() of one again", 1, x::blocks);
        bytes(x, first);
        x.clear(false);
        due.answers("pack() of none again", 0, x::pack);
        due.answers("size() of none again", 0, x::size);
        due.refuses("at(0) of none again", IndexOutOfBoundsException.class, () -> x.at(0));
    }

    private static void theArchiveHasEdges() {
        SlicedReads x = new SlicedReads();
        due.refuses("corrupt(0, 0) of nothing", IndexOutOfBoundsException.class, () -> Calls.corrupt(x, 0, 0));
        x.refer(0, 4);
        Calls.read(x, 0, Calls.MATCH, 4);
        int size = x.pack();
        for (int k : new int[] {-1, size, Integer.MIN_VALUE, Integer.MAX_VALUE}) {
            due.refuses("at(" + k + ")", IndexOutOfBoundsException.class, () -> x.at(k));
            due.refuses("corrupt(" + k + ", 0)", IndexOutOfBoundsException.class, () -> Calls.corrupt(x, k, 0));
            due.refuses("corrupt(" + k + ", 256)", IndexOutOfBoundsException.class, () -> Calls.corrupt(x, k, 256));
        }
        int before = x.at(0);
        for (int b : new int[] {-1, 256, Integer.MIN_VALUE, Integer.MAX_VALUE}) {
            due.refuses("corrupt(0, " + b + ")", IllegalArgumentException.class, () -> Calls.corrupt(x, 0, b));
            due.answers("at(0) behind it", before, () -> x.at(0));
        }
        x.corrupt(0, 255);
        x.corrupt(size - 1, 0);
        due.answers("at(0) behind corrupt", 255, () -> x.at(0));
        due.answers("the last byte behind corrupt", 0, () -> x.at(size - 1));
        due.answers("size() behind corrupt", size, x::size);
        due.answers("pack() behind corrupt", size, x::pack);
        due.answers("at(0) behind pack()", 1, () -> x.at(0));
    }

    private static void blocksAreToldByThoseBefore() {
        SlicedReads x = new SlicedReads();
        x.refer(0, 16);
        for (int i = 0; i < 6; i++) {
            Calls.read(x, i, Calls.INSERT, 1, Calls.INSERT, 2, Calls.INSERT, 3, Calls.INSERT, 0);
        }
        int size = x.pack();
        due.answers("blocks()", 2, x::blocks);
        int[] tails = {0, 1, 2, 3, 4, 5, 6};
        for (int tail : tails) {
            x.corrupt(2, size - tail - 5);
            int begin = size - tail;
            int want = tail == 0 ? 1 : tail < 6 ? 2 : 3;
            if (tail == 6) {
                x.corrupt(begin + 2, 0);
            }
            due.answers("blocks() with " + tail + " bytes left", want, x::blocks);
            due.refuses("no block behind them", IndexOutOfBoundsException.class, () -> x.unpack(want));
        }
        x.corrupt(2, 255);
        due.answers("blocks() of one too long", 1, x::blocks);
        for (int k = 0; k < size; k++) {
            x.corrupt(k, 0);
        }
        due.answers("blocks() of bytes 0", (size + 4) / 5, x::blocks);
    }

    /** Three reads of twelve edits each, as dear as they can be thrown, and 24 of them. */
    private static void theFullestBlocks() {
        for (int run = 0; run < 60; run++) {
            Dice dice = new Dice(900 + run);
            List<Integer> reference = new ArrayList<>();
            SlicedReads x = new SlicedReads();
            for (int i = 0; i < 10; i++) {
                Blocks.refer(x, reference, dice.bits());
            }
            List<ModelRead> reads = new ArrayList<>();
            for (int i = 0; i < 24; i++) {
                ModelRead read = Blocks.thrown(dice, reference, 150, 40);
                reads.add(read);
                Blocks.enter(x, read);
            }
            reads.sort((a, b) -> Integer.compare(a.position, b.position));
            x.pack();
            int k = 0;
            for (int from = 0; from < 24; from += 3) {
                for (int each : ModelBlock.bytesOf(reference, reads.subList(from, from + 3))) {
                    int at = k++;
                    // Not all of them, as an object promises nothing behind its 512th call.
                    if (at % 4 == run % 4) {
                        due.answers("byte " + at + " of 24 reads", each, () -> x.at(at));
                    }
                }
            }
            due.answers("size() of 24 reads", k, x::size);
            due.answers("blocks() of 24 reads", 8, x::blocks);
        }
    }

    private static void bytes(SlicedReads x, int[] want) {
        due.answers("size() behind pack()", want.length, x::size);
        due.answers("pack() again", want.length, x::pack);
        for (int k = 0; k < want.length; k++) {
            int at = k;
            due.answers("at(" + k + ")", want[k], () -> x.at(at));
        }
    }
}
