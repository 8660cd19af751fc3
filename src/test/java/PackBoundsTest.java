import java.util.ArrayList;
import java.util.Arrays;
import java.util.List;

/** The bounds of promise 10, pack, and of what 'Terms' says of a block and its bytes. */
public final class PackBoundsTest {
    private static final Due due = new Due();
    private static final int[] COUNTS = {0, 1, 2, 3, 4, 5, 6, 7, 22, 23, 24};

    public static void main(String[] args) {
        eachBlockTakesThree();
        theBytesOfABlock();
        sortedByPosition();
        thoseAtTheSameOneByTheirNumbers();
        positionsFrom0To160();
        inPlaceOfWhatItWas();
        withoutAnyThereAreNone();
        theOneUnderWayIsNotPacked();
        readsAndShelfStay();
        packAgainIsTheSame();
        theDearestReads();
        due.end("PackBoundsTest");
    }

    /** Read i of some: an INSERT of i % 4 and a MATCH, at a position that falls. */
    private static ModelRead one(int i) {
        return new ModelRead(30 - i, Calls.INSERT, i % 4, Calls.MATCH, 1 + i % 3);
    }

    private static List<Integer> reference(int bases) {
        List<Integer> reference = new ArrayList<>();
        for (int i = 0; i < bases; i++) {
            reference.add(i % 4);
        }
        return reference;
    }

    private static Twins filled(int reads) {
        return new Twins(due, "with " + reads + " reads", x -> {
            x.referring(40);
            for (int i = 0; i < reads; i++) {
                x.enter(one(i));
            }
        });
    }

    /** "A BLOCK has 1 .. 3 reads [...] each block takes three, the last one what is left." */
    private static void eachBlockTakesThree() {
        for (int reads : COUNTS) {
            Counted x = filled(reads).one();
            int size = x.pack();
            due.answers("size() of " + reads, size, x::size);
            due.answers("blocks() of " + reads, (reads + 2) / 3, x::blocks);
            int begin = 0;
            for (int left = reads; left > 0; left -= 3) {
                int at = begin;
                due.answers("reads of a block of " + reads, Math.min(3, left), () -> x.at(at));
                begin += 5 + x.at(begin + 2);
            }
            due.equal("the last block's end of " + reads, begin, size);
            for (int block = 0; block < (reads + 2) / 3; block++) {
                int at = block;
                due.answers("unpack(" + block + ") of " + reads, Math.min(3, reads - 3 * block), () -> x.unpack(at));
            }
            due.refuses("unpack behind the last of " + reads, IndexOutOfBoundsException.class,
                    () -> x.unpack((reads + 2) / 3));
        }
    }

    /** "THE BYTES of a block: how many reads; the position of the first; how many bytes the coder's row has [...]" */
    private static void theBytesOfABlock() {
        for (int reads : COUNTS) {
            Counted x = filled(reads).one();
            x.pack();
            List<ModelRead> sorted = new ArrayList<>();
            for (int i = reads - 1; i >= 0; i--) {
                sorted.add(one(i));
            }
            holds("the bytes of " + reads, x, reference(40), sorted);
        }
    }

    private static void holds(String what, Counted x, List<Integer> reference, List<ModelRead> sorted) {
        List<Integer> want = new ArrayList<>();
        for (int from = 0; from < sorted.size(); from += 3) {
            for (int each : ModelBlock.bytesOf(reference, sorted.subList(from, Math.min(from + 3, sorted.size())))) {
                want.add(each);
            }
        }
        due.answers(what + ", size()", want.size(), x::size);
        for (int k = 0; k < want.size(); k++) {
            int at = k;
            due.answers(what + ", at(" + k + ")", want.get(k), () -> x.at(at));
        }
        due.refuses(what + ", at(size)", IndexOutOfBoundsException.class, () -> x.at(want.size()));
    }

    /** "they are sorted by position": neighbours, in each order. */
    private static void sortedByPosition() {
        int[][] orders = {{4, 5, 6}, {4, 6, 5}, {5, 4, 6}, {5, 6, 4}, {6, 4, 5}, {6, 5, 4}, {5, 4}, {4, 5}, {0, 40, 39, 1}};
        for (int[] order : orders) {
            Counted x = new Counted().referring(40);
            List<ModelRead> reads = new ArrayList<>();
            for (int position : order) {
                reads.add(new ModelRead(position, Calls.INSERT, position % 4));
                x.enter(reads.get(reads.size() - 1));
            }
            x.pack();
            reads.sort((a, b) -> Integer.compare(a.position, b.position));
            holds("order " + Arrays.toString(order), x, reference(40), reads);
        }
    }

    /** "(those at the same one by their numbers)". */
    private static void thoseAtTheSameOneByTheirNumbers() {
        Counted x = new Counted().referring(40);
        // The base that each inserts tells the reads apart.
        int[] positions = {7, 8, 7, 6, 7, 8, 6, 7};
        int[][] want = {{6, 3}, {6, 2}, {7, 0}, {7, 2}, {7, 0}, {7, 3}, {8, 1}, {8, 1}};
        int[] bases = {0, 1, 2, 3, 0, 1, 2, 3};
        for (int i = 0; i < positions.length; i++) {
            x.read(positions[i], Calls.INSERT, bases[i], Calls.REMOVE, i + 1);
        }
        int[] passed = {4, 7, 1, 3, 5, 8, 2, 6};
        x.pack();
        for (int i = 0; i < want.length; i++) {
            int read = i % 3;
            if (read == 0) {
                x.unpack(i / 3);
            }
            due.answers("position of sorted read " + i, want[i][0], () -> x.about(read, 0, true));
            due.answers("base of sorted read " + i, want[i][1], () -> x.base(read, 0, true));
            due.answers("passed over by sorted read " + i, passed[i], () -> x.about(read, 3, true));
        }
        due.answers("read 0 is where it was", 7, () -> x.about(0, 0, false));
        due.answers("read 3 is where it was", 6, () -> x.about(3, 0, false));
    }

    /** The second byte at its least and at its most, and the greatest distance. */
    private static void positionsFrom0To160() {
        for (int position : new int[] {0, 1, 159, 160}) {
            Counted x = new Counted().referring(160);
            x.read(position, Calls.INSERT, 2);
            x.pack();
            due.answers("the second byte at " + position, position, () -> x.at(1));
            holds("a read at " + position, x, reference(160), List.of(new ModelRead(position, Calls.INSERT, 2)));
            due.answers("unpack(0) at " + position, 1, () -> x.unpack(0));
            due.answers("the position on the shelf", position, () -> x.about(0, 0, true));
        }
        Counted none = new Counted();
        none.read(0, Calls.INSERT, 2);
        none.pack();
        holds("a read without a reference", none, List.of(), List.of(new ModelRead(0, Calls.INSERT, 2)));
        due.answers("unpack(0) without a reference", 1, () -> none.unpack(0));
    }

    /** "Packs all reads into the archive, in place of what it was; answers how many bytes it has." */
    private static void inPlaceOfWhatItWas() {
        for (int before : new int[] {0, 1, 3, 4, 24}) {
            for (int reads : new int[] {0, 1, 3, 4}) {
                Counted x = filled(before).one();
                x.pack();
                x.clear(false);
                for (int i = 0; i < reads; i++) {
                    x.enter(one(i));
                }
                due.alike("pack() of " + reads + " behind " + before, x::pack, () -> filled(reads).one().pack());
                Counted fresh = filled(reads).one();
                fresh.pack();
                boolean same = Arrays.equals(x.archive(), fresh.archive());
                due.equal("the archive of " + reads + " behind " + before, same ? 1 : 0, 1);
            }
        }
    }

    /** "(Reads stay; without any there are none.)" */
    private static void withoutAnyThereAreNone() {
        Twins none = new Twins(due, "behind pack() of none", x -> {
            x.referring(40).enter(one(0));
            x.pack();
            x.unpack(0);
            x.clear(false);
            due.answers("pack() of none", 0, x::pack);
        });
        none.answers("size()", 0, Counted::size);
        none.answers("blocks()", 0, Counted::blocks);
        none.refuses("at(0)", IndexOutOfBoundsException.class, x -> x.at(0));
        none.refuses("corrupt(0, 0)", IndexOutOfBoundsException.class, x -> x.corrupt(0, 0));
        none.refuses("unpack(0)", IndexOutOfBoundsException.class, x -> x.unpack(0));
        none.answers("depth(30)", 0, x -> x.depth(30));
        none.answers("the shelf", 30, x -> x.about(0, 0, true));
    }

    private static void theOneUnderWayIsNotPacked() {
        for (int reads : new int[] {0, 1, 2, 3, 24}) {
            Counted x = filled(reads).one();
            x.begin(0, Calls.MATCH, 4);
            due.alike("pack() of " + reads + " and one under way", x::pack, () -> filled(reads).one().pack());
            due.answers("blocks() without it", (reads + 2) / 3, x::blocks);
            due.answers("edit behind pack()", 0, () -> x.edit(Calls.MATCH, 1));
            if (reads < 24) {
                due.answers("finish() behind pack()", reads, x::finish);
                due.answers("bases behind pack()", 5, () -> x.about(reads, 1, false));
            }
        }
    }

    private static void readsAndShelfStay() {
        Counted x = filled(7).one();
        x.pack();
        x.unpack(1);
        int[] shelf = {x.about(0, 0, true), x.about(1, 0, true), x.about(2, 0, true)};
        due.answers("finish() of one more", 7, () -> x.enter(one(20)));
        x.pack();
        due.answers("reads() behind pack()", 8, x::reads);
        for (int i = 0; i < 7; i++) {
            int read = i;
            due.answers("position of read " + i + " behind pack()", 30 - i, () -> x.about(read, 0, false));
            due.answers("base of read " + i + " behind pack()", i % 4, () -> x.base(read, 0, false));
        }
        for (int i = 0; i < 3; i++) {
            int read = i;
            due.answers("the shelf behind pack()", shelf[i], () -> x.about(read, 0, true));
        }
        due.refuses("one more on the shelf", IndexOutOfBoundsException.class, () -> x.about(3, 0, true));
        due.refuses("refer behind pack()", IllegalStateException.class, () -> x.refer(0, 1));
    }

    private static void packAgainIsTheSame() {
        Counted x = filled(5).one();
        int size = x.pack();
        int[] bytes = x.archive();
        due.answers("pack() again", size, x::pack);
        due.equal("the archive again", Arrays.equals(bytes, x.archive()) ? 1 : 0, 1);
        for (int k = 0; k < size; k++) {
            x.corrupt(k, 255 - x.at(k));
        }
        due.answers("pack() of what was corrupt", size, x::pack);
        due.equal("the archive is mended", Arrays.equals(bytes, x.archive()) ? 1 : 0, 1);
    }

    /** Reads of eleven and twelve edits, whose rows are the longest that a search has found. */
    private static void theDearestReads() {
        ModelRead[] dear = {
            new ModelRead(3, 3, 31, 1, 1, 1, 0, 0, 1, 2, 3, 1, 0, 2, 1, 1, 1, 3, 97, 0, 3, 2, 2, 0, 1),
            new ModelRead(10, 3, 20, 1, 3, 1, 0, 3, 45, 0, 2, 1, 2, 3, 33, 0, 8, 2, 1, 3, 1, 2, 2),
            new ModelRead(25, 1, 2, 0, 3, 3, 33, 2, 1, 1, 1, 0, 3, 3, 26, 2, 3, 1, 1, 3, 3, 0, 5, 1, 3),
        };
        Counted x = new Counted().referring(160);
        List<ModelRead> sorted = new ArrayList<>();
        // With 24 of them and a look at each byte there would be more than 512 calls.
        for (int i = 0; i < 12; i++) {
            x.enter(dear[i / 4]);
            sorted.add(dear[i / 4]);
        }
        x.pack();
        due.answers("blocks() of the dearest", 4, x::blocks);
        holds("the dearest", x, reference(160), sorted);
    }
}
