import java.util.ArrayList;
import java.util.Arrays;
import java.util.List;

/** Promise 15: unpack, and which blocks are sound. */
public final class UnpackingTest {
    private static final Due due = new Due();
    /** 0 1 2 3, five times. */
    private static final List<Integer> TWENTY = new ArrayList<>();
    /** The same, and what would be behind it if it were longer. */
    private static final List<Integer> LONGER = new ArrayList<>();

    public static void main(String[] args) {
        for (int i = 0; i < 40; i++) {
            LONGER.add(i % 4);
        }
        TWENTY.addAll(LONGER.subList(0, 20));
        unpackPutsReadsOnTheShelf();
        aRefusedUnpackChangesNothing();
        theReferenceMatters();
        soundBlocks();
        blocksOfReadsThatCannotBe();
        framesThatCannotBe();
        rowsThatCannotBe();
        bytesThatAreNotThereAnyMore();
        theLongestReference();
        everyByteMatters();
        thrownRows();
        due.end("UnpackingTest");
    }

    private static void unpackPutsReadsOnTheShelf() {
        SlicedReads x = new SlicedReads();
        x.refer(0b1110_0100_1110_0100, 8);
        for (int i = 0; i < 5; i++) {
            Calls.read(x, 7 - i, Calls.MATCH, 1, Calls.INSERT, i % 4);
        }
        x.pack();
        due.refuses("unpack(-1)", IndexOutOfBoundsException.class, () -> x.unpack(-1));
        due.refuses("unpack(2)", IndexOutOfBoundsException.class, () -> x.unpack(2));
        due.refuses("unpack(MIN)", IndexOutOfBoundsException.class, () -> x.unpack(Integer.MIN_VALUE));
        due.refuses("unpack(MAX)", IndexOutOfBoundsException.class, () -> x.unpack(Integer.MAX_VALUE));
        due.answers("unpack(1)", 2, () -> x.unpack(1));
        due.answers("first of block 1", 6, () -> x.about(0, 0, true));
        due.answers("second of block 1", 7, () -> x.about(1, 0, true));
        due.refuses("third of block 1", IndexOutOfBoundsException.class, () -> x.about(2, 0, true));
        due.answers("unpack(0)", 3, () -> x.unpack(0));
        for (int i = 0; i < 3; i++) {
            int read = i;
            due.answers("position of " + i, 3 + i, () -> x.about(read, 0, true));
            due.answers("base 0 of " + i, (3 + i) % 4, () -> x.base(read, 0, true));
            due.answers("base 1 of " + i, (4 - i) % 4, () -> x.base(read, 1, true));
        }
        due.answers("reads() behind unpack", 5, x::reads);
        due.answers("read 0 behind unpack", 7, () -> x.about(0, 0, false));
    }

    private static void aRefusedUnpackChangesNothing() {
        SlicedReads x = new SlicedReads();
        x.refer(0b1110_0100_1110_0100, 8);
        for (int i = 0; i < 6; i++) {
            Calls.read(x, i, Calls.MATCH, 2, Calls.INSERT, 3);
        }
        int size = x.pack();
        x.unpack(0);
        x.corrupt(size - 1, x.at(size - 1) ^ 1);
        int[] before = Calls.archive(x);
        due.refuses("unpack(1) of a wrong check", IllegalArgumentException.class, () -> x.unpack(1));
        due.equal("the archive behind it", Arrays.equals(before, Calls.archive(x)) ? 1 : 0, 1);
        for (int i = 0; i < 3; i++) {
            int read = i;
            due.answers("the shelf behind it", i, () -> x.about(read, 0, true));
            due.answers("its bases behind it", (i + 1) % 4, () -> x.base(read, 1, true));
        }
        due.answers("unpack(0) behind it", 3, () -> x.unpack(0));
        x.corrupt(size - 1, x.at(size - 1) ^ 1);
        due.answers("unpack(1) when it is mended", 3, () -> x.unpack(1));
    }

    private static void theReferenceMatters() {
        int[] inserts = ModelBlock.bytesOf(List.of(), List.of(new ModelRead(0, Calls.INSERT, 3)));
        due.answers("INSERT without a reference", 1, () -> Blocks.holding(List.of(), inserts).unpack(0));
        int[] block = ModelBlock.bytesOf(TWENTY, List.of(new ModelRead(4, Calls.CHANGE, 2, Calls.MATCH, 3)));
        SlicedReads x = Blocks.holding(TWENTY, block);
        due.answers("unpack with the reference", 1, () -> x.unpack(0));
        x.clear(true);
        due.refuses("unpack without it", IllegalArgumentException.class, () -> x.unpack(0));
        x.refer(0b11_10_01_11_00, 5);
        due.refuses("unpack with too short a one", IllegalArgumentException.class, () -> x.unpack(0));
        x.refer(0b11_10_01, 3);
        due.answers("unpack with another one", 1, () -> x.unpack(0));
        // The second base that is not 0 was coded; here it is the second that is not 3.
        due.answers("the base that its CHANGE has", 1, () -> x.base(0, 0, true));
        due.answers("a base that its MATCH has", 1, () -> x.base(0, 1, true));
    }

    private static void soundBlocks() {
        ModelRead a = new ModelRead(3, Calls.MATCH, 17);
        ModelRead b = new ModelRead(3, Calls.REMOVE, 17, Calls.INSERT, 0);
        ModelRead c = new ModelRead(20, Calls.INSERT, 1);
        ModelRead d = new ModelRead(0, Calls.REMOVE, 1, Calls.INSERT, 1, Calls.REMOVE, 1, Calls.MATCH, 1,
                Calls.CHANGE, 0, Calls.MATCH, 1, Calls.CHANGE, 0, Calls.REMOVE, 1, Calls.MATCH, 1, Calls.INSERT, 1,
                Calls.MATCH, 1, Calls.REMOVE, 11);
        ModelRead e = new ModelRead(0, Calls.MATCH, 20);
        sound("one", a);
        sound("one at the end", c);
        sound("two at one place", a, b);
        sound("two at one place, the other way", b, a);
        sound("three", d, a, c);
        sound("three at one place", e, d, e);
        sound("twelve edits, thrice", d, d, d);
    }

    private static void sound(String what, ModelRead... reads) {
        SlicedReads x = Blocks.holding(TWENTY, ModelBlock.bytesOf(TWENTY, List.of(reads)));
        due.answers("unpack of " + what, reads.length, () -> x.unpack(0));
        for (int i = 0; i < reads.length; i++) {
            int read = i;
            List<Integer> bases = reads[i].bases(TWENTY);
            due.answers("position in " + what, reads[i].position, () -> x.about(read, 0, true));
            due.answers("bases in " + what, bases.size(), () -> x.about(read, 1, true));
            due.answers("edits in " + what, reads[i].edits.size(), () -> x.about(read, 2, true));
            due.answers("passed over in " + what, reads[i].passed(), () -> x.about(read, 3, true));
            for (int k = 0; k < bases.size(); k++) {
                int at = k;
                due.answers("base in " + what, bases.get(k), () -> x.base(read, at, true));
            }
        }
    }

    private static void blocksOfReadsThatCannotBe() {
        ModelRead fine = new ModelRead(2, Calls.MATCH, 3);
        unsound("no edits", new ModelRead(2));
        unsound("no bases", new ModelRead(2, Calls.REMOVE, 3));
        unsound("MATCH behind MATCH", new ModelRead(2, Calls.MATCH, 3, Calls.MATCH, 1));
        unsound("REMOVE behind REMOVE", new ModelRead(2, Calls.INSERT, 3, Calls.REMOVE, 1, Calls.REMOVE, 1));
        unsound("MATCH behind the end", new ModelRead(18, Calls.MATCH, 3));
        unsound("REMOVE behind the end", new ModelRead(18, Calls.MATCH, 1, Calls.REMOVE, 2));
        unsound("CHANGE behind the end", new ModelRead(20, Calls.CHANGE, 3));
        unsound("a position behind the end", new ModelRead(21, Calls.INSERT, 3));
        unsound("a later position behind the end", fine, new ModelRead(21, Calls.INSERT, 3));
        unsound("the greatest position", new ModelRead(255, Calls.INSERT, 3));
        unsound("the greatest distance", fine, new ModelRead(2 + 1022, Calls.INSERT, 3));
        unsound("the longest MATCH", new ModelRead(2, Calls.MATCH, 1023));
        unsound("21 bases", new ModelRead(0, Calls.MATCH, 20, Calls.INSERT, 0));
        unsound("thirteen edits", new ModelRead(0, Calls.INSERT, 0, Calls.INSERT, 0, Calls.INSERT, 0, Calls.INSERT, 0,
                Calls.INSERT, 0, Calls.INSERT, 0, Calls.INSERT, 0, Calls.INSERT, 0, Calls.INSERT, 0, Calls.INSERT, 0,
                Calls.INSERT, 0, Calls.INSERT, 0, Calls.INSERT, 0));
        unsound("a wrong second read", fine, new ModelRead(2));
        unsound("a wrong third read", fine, fine, new ModelRead(20, Calls.MATCH, 1));
        unsound("four reads", fine, fine, fine, fine);
    }

    private static void unsound(String what, ModelRead... reads) {
        refused(what, ModelBlock.bytesOf(LONGER, List.of(reads)));
    }

    private static void refused(String what, int[] bytes) {
        SlicedReads x = Blocks.holding(TWENTY, bytes);
        due.refuses("unpack of " + what, IllegalArgumentException.class, () -> x.unpack(0));
        due.refuses("the shelf behind it", IndexOutOfBoundsException.class, () -> x.about(0, 0, true));
    }

    private static void framesThatCannotBe() {
        ModelRead read = new ModelRead(2, Calls.MATCH, 3);
        int[] one = ModelBlock.rowOf(TWENTY, List.of(read), 0);
        int[] two = ModelBlock.rowOf(TWENTY, List.of(read, read), 0);
        refused("no reads", ModelBlock.framed(0, 2, one));
        refused("255 reads", ModelBlock.framed(255, 2, one));
        refused("one read too few", ModelBlock.framed(2, 2, one));
        refused("one read too many", ModelBlock.framed(1, 2, two));
        refused("a first distance", ModelBlock.framed(1, 1, ModelBlock.rowOf(TWENTY, List.of(read), 1)));
        SlicedReads x = new SlicedReads();
        x.refer(0, 16);
        Calls.read(x, 0, Calls.MATCH, 5);
        int size = x.pack();
        x.corrupt(2, size - 5 + 1);
        due.refuses("unpack of a block with a byte missing", IllegalArgumentException.class, () -> x.unpack(0));
        x.corrupt(2, 255);
        due.refuses("unpack of a block with many missing", IllegalArgumentException.class, () -> x.unpack(0));
        x.corrupt(2, 0);
        due.refuses("unpack of what is left behind a block", IllegalArgumentException.class, () -> x.unpack(1));
        x.corrupt(2, size - 5);
        due.answers("unpack when it is mended", 1, () -> x.unpack(0));
    }

    private static void rowsThatCannotBe() {
        int[] row = ModelBlock.rowOf(TWENTY, List.of(new ModelRead(2, Calls.MATCH, 3, Calls.CHANGE, 3)), 0);
        refused("a row with a byte 0 more", ModelBlock.framed(1, 2, Arrays.copyOf(row, row.length + 1)));
        int[] more = Arrays.copyOf(row, row.length + 1);
        more[row.length] = 1;
        refused("a row with a byte 1 more", ModelBlock.framed(1, 2, more));
        int[] greater = row.clone();
        greater[row.length - 1] ^= 1;
        refused("a row that is one off", ModelBlock.framed(1, 2, greater));
        refused("an empty row", ModelBlock.framed(1, 2, new int[0]));
        refused("a row of one byte", ModelBlock.framed(1, 2, new int[] {64}));
        for (int length = 1; length < 40; length++) {
            int[] full = new int[length];
            Arrays.fill(full, 255);
            refused("a row of bytes 255", ModelBlock.framed(1 + length % 3, 2, full));
        }
    }

    /** What an earlier, longer archive had behind the end of this one does not count. */
    private static void bytesThatAreNotThereAnyMore() {
        SlicedReads x = new SlicedReads();
        x.refer(0, 16);
        Calls.read(x, 0, Calls.INSERT, 3, Calls.INSERT, 1, Calls.INSERT, 2, Calls.CHANGE, 3, Calls.REMOVE, 9);
        x.pack();
        int[] longer = Calls.archive(x);
        x.clear(false);
        Calls.read(x, 0, Calls.MATCH, 1);
        int size = x.pack();
        due.equal("the second archive is shorter", size < longer.length ? 1 : 0, 1);
        Calls.overwrite(x, Arrays.copyOf(longer, size));
        due.refuses("unpack without the last bytes", IllegalArgumentException.class, () -> x.unpack(0));
        due.refuses("depth without the last bytes", IllegalArgumentException.class, () -> x.depth(0));
        due.answers("blocks() without the last bytes", 1, x::blocks);
    }

    private static void theLongestReference() {
        List<Integer> longest = new ArrayList<>();
        SlicedReads x = new SlicedReads();
        for (int i = 0; i < 10; i++) {
            Blocks.refer(x, longest, 0x1B2D8E47);
        }
        for (int i = 0; i < 6; i++) {
            Calls.read(x, 160, Calls.INSERT, 1, Calls.INSERT, 2, Calls.INSERT, 3, Calls.INSERT, 0);
        }
        x.pack();
        due.answers("unpack at 160", 3, () -> x.unpack(1));
        List<Integer> beyond = new ArrayList<>(longest);
        beyond.add(0);
        ModelRead[] cannotBe = {
            new ModelRead(160, Calls.CHANGE, 2), new ModelRead(159, Calls.MATCH, 1, Calls.CHANGE, 2),
            new ModelRead(160, Calls.MATCH, 1), new ModelRead(160, Calls.INSERT, 1, Calls.REMOVE, 1),
            new ModelRead(161, Calls.INSERT, 1), new ModelRead(140, Calls.MATCH, 21),
        };
        for (ModelRead read : cannotBe) {
            Calls.overwrite(x, ModelBlock.bytesOf(beyond, List.of(read)));
            due.refuses("unpack of what ends behind 160", IllegalArgumentException.class, () -> x.unpack(0));
        }
        Calls.overwrite(x, ModelBlock.bytesOf(beyond, List.of(new ModelRead(140, Calls.MATCH, 20))));
        due.answers("unpack of what ends at 160", 1, () -> x.unpack(0));
    }

    private static void everyByteMatters() {
        ModelRead read = new ModelRead(1, Calls.MATCH, 3, Calls.INSERT, 0);
        int[] block = ModelBlock.bytesOf(TWENTY, List.of(read, read));
        SlicedReads x = Blocks.holding(TWENTY, block);
        for (int k = 0; k < block.length; k++) {
            for (int bit = 0; bit < 8; bit++) {
                x.corrupt(k, block[k] ^ (1 << bit));
                due.refuses("unpack with byte " + k + " wrong", IllegalArgumentException.class, () -> x.unpack(0));
            }
            x.corrupt(k, block[k]);
        }
        due.answers("unpack when all are right", 2, () -> x.unpack(0));
    }

    /** Rows near true ones, with a true check: sound just when the model finds them so. */
    private static void thrownRows() {
        int found = 0;
        for (int run = 0; run < 6000; run++) {
            Dice dice = new Dice(run);
            List<Integer> reference = LONGER.subList(0, dice.below(24));
            List<ModelRead> reads = new ArrayList<>();
            for (int i = dice.below(3); i >= 0; i--) {
                reads.add(Blocks.thrown(dice, reference, 24, 5));
            }
            reads.sort((a, b) -> Integer.compare(a.position, b.position));
            int[] row = ModelBlock.rowOf(reference, reads, 0);
            if (!dice.oneIn(4)) {
                row = Arrays.copyOf(row, row.length + dice.below(3) - (row.length > 1 ? 1 : 0));
                row[dice.below(row.length)] = dice.below(256);
            }
            int count = dice.oneIn(8) ? dice.below(5) : reads.size();
            int[] block = ModelBlock.framed(count, reads.get(0).position, row);
            List<ModelRead> want = ModelBlock.readsOf(reference, block);
            found += want == null ? 0 : 1;
            SlicedReads x = Blocks.holding(reference, block);
            if (want == null) {
                due.refuses("unpack of thrown row " + run, IllegalArgumentException.class, () -> x.unpack(0));
            } else {
                due.answers("unpack of thrown row " + run, want.size(), () -> x.unpack(0));
            }
        }
        due.equal("some thrown rows are sound, some are not", found > 1000 && found < 5000 ? 1 : 0, 1);
    }
}
