import java.util.ArrayList;
import java.util.Arrays;
import java.util.List;

/** The bounds of promise 15, unpack, and of what 'Terms' says of a sound block. */
public final class SoundBoundsTest {
    private static final Due due = new Due();
    private static final Class<IllegalArgumentException> UNSOUND = IllegalArgumentException.class;
    private static final int REFERENCE = 20;
    /** 0 1 2 3 and so on, longer than the reference of the objects, for reads that would need more of it. */
    private static final List<Integer> LONGER = new ArrayList<>();
    private static final ModelRead FINE = new ModelRead(2, Calls.MATCH, 3);

    public static void main(String[] args) {
        for (int i = 0; i < 1200; i++) {
            LONGER.add(i % 4);
        }
        blocksAre0ToTheLast();
        theShelfIsReplaced();
        itsBytesAreAllThere();
        oneToThreeReads();
        positionsUpToTheReferencesEnd();
        theFirstDistanceIs0();
        numbersThatAreTooGreat();
        atMost12Edits();
        oneTo20Bases();
        editsEndWithTheReference();
        noMatchBehindAMatch();
        eachReadOfThree();
        theReferenceOfNow();
        rowsThatPackingWouldNotMake();
        bytes0AtTheEnd();
        wrongChecks();
        aCheckHasOneForm();
        shorterBlocksBeforeOthers();
        aBlockIsReadOnItsOwn();
        theLongestRowThatCanBeSaid();
        allShortRows();
        due.end("SoundBoundsTest");
    }

    private static ModelRead read(int position, int... edits) {
        return new ModelRead(position, edits);
    }

    /** Three reads on the shelf, a read under way, and an archive that begins with these bytes. */
    private static void holding(Counted x, int reference, int... bytes) {
        x.referring(reference);
        while (x.pack() < bytes.length + 8) {
            x.read(Math.min(reference, x.reads() % 3), Calls.INSERT, 1, Calls.INSERT, 3, Calls.INSERT, 0, Calls.INSERT, 2,
                    Calls.INSERT, 2, Calls.INSERT, 1);
        }
        x.unpack(0);
        x.start(reference);
        x.overwrite(0, bytes);
    }

    private static void refused(String what, int... bytes) {
        new Twins(due, "which holds " + what, x -> holding(x, REFERENCE, bytes)).refuses("unpack(0)", UNSOUND,
                x -> x.unpack(0));
    }

    private static void unsound(String what, ModelRead... reads) {
        refused(what, ModelBlock.bytesOf(LONGER, List.of(reads)));
    }

    private static void sound(String what, ModelRead... reads) {
        sound(what, REFERENCE, reads);
    }

    private static void sound(String what, int reference, ModelRead... reads) {
        Counted x = new Counted();
        holding(x, reference, ModelBlock.bytesOf(LONGER, List.of(reads)));
        due.answers("unpack(0) of " + what, reads.length, () -> x.unpack(0));
        for (int i = 0; i < reads.length; i++) {
            int read = i;
            List<Integer> bases = reads[i].bases(LONGER);
            due.answers("position in " + what, reads[i].position, () -> x.about(read, 0, true));
            due.answers("bases in " + what, bases.size(), () -> x.about(read, 1, true));
            due.answers("edits in " + what, reads[i].edits.size(), () -> x.about(read, 2, true));
            due.answers("passed over in " + what, reads[i].passed(), () -> x.about(read, 3, true));
            due.answers("first base in " + what, bases.get(0), () -> x.base(read, 0, true));
            due.answers("last base in " + what, bases.get(bases.size() - 1), () -> x.base(read, bases.size() - 1, true));
        }
        due.refuses("one more in " + what, IndexOutOfBoundsException.class, () -> x.about(reads.length, 0, true));
    }

    /** "IndexOutOfBoundsException when there is no such block". */
    private static void blocksAre0ToTheLast() {
        for (int blocks = 0; blocks <= 8; blocks++) {
            int reads = 3 * blocks;
            int last = blocks - 1;
            Twins some = new Twins(due, "of " + blocks + " blocks", x -> {
                x.referring(8);
                for (int i = 0; i < reads; i++) {
                    x.read(i / 3, Calls.INSERT, i % 4);
                }
                x.pack();
            });
            for (int block : new int[] {-1, -2, Integer.MIN_VALUE, blocks, blocks + 1, Integer.MAX_VALUE}) {
                some.refuses("unpack(" + block + ")", IndexOutOfBoundsException.class, x -> x.unpack(block));
            }
            if (blocks > 0) {
                some.answers("unpack(0)", 3, x -> x.unpack(0));
                some.answers("position behind unpack(0)", 0, x -> x.unpack(0) * 0 + x.about(0, 0, true));
                some.answers("unpack(" + last + ")", 3, x -> x.unpack(last));
                some.answers("position behind it", last, x -> x.unpack(last) * 0 + x.about(2, 0, true));
            }
        }
    }

    /** "The reads of a block are put on the shelf, in place of what is there, in their order; answers how many." */
    private static void theShelfIsReplaced() {
        Counted x = new Counted().referring(8);
        for (int i = 0; i < 3; i++) {
            x.read(i, Calls.MATCH, 2 + i, Calls.INSERT, i);
        }
        x.read(5, Calls.CHANGE, 0);
        x.pack();
        int[] blocks = {0, 1, 1, 0, 0, 1};
        for (int block : blocks) {
            int reads = block == 0 ? 3 : 1;
            due.answers("unpack(" + block + ")", reads, () -> x.unpack(block));
            for (int i = 0; i < reads; i++) {
                int read = i;
                due.answers("position " + i + " of " + block, block == 0 ? i : 5, () -> x.about(read, 0, true));
                due.answers("bases " + i + " of " + block, block == 0 ? 3 + i : 1, () -> x.about(read, 1, true));
                due.answers("base 0 of " + i + " of " + block, block == 0 ? i : 0, () -> x.base(read, 0, true));
            }
            due.refuses("no more of " + block, IndexOutOfBoundsException.class, () -> x.about(reads, 0, true));
        }
        due.answers("reads() behind unpack", 4, x::reads);
        due.answers("read 3 behind unpack", 5, () -> x.about(3, 0, false));
    }

    /** A read of so many INSERTs. */
    private static ModelRead inserts(int count) {
        ModelRead read = new ModelRead(1);
        for (int i = 0; i < count; i++) {
            read = read.with(Calls.INSERT, (i * i + i / 3) % 4);
        }
        return read;
    }

    /** A read of INSERTs whose block has just so many bytes. */
    private static ModelRead readOf(int bytes) {
        return Blocks.lengthened(LONGER, new ModelRead(1), bytes);
    }

    /** "its bytes (as many as its third byte says, and five) are all there". */
    private static void itsBytesAreAllThere() {
        int size = 13;
        cutTo(size, size, "all are there").answers("unpack(0)", 1, x -> x.unpack(0));
        cutTo(size, size + 1, "the last is missing").refuses("unpack(0)", UNSOUND, x -> x.unpack(0));
        cutTo(size, size + 2, "two are missing").refuses("unpack(0)", UNSOUND, x -> x.unpack(0));
        cutTo(size, size + 1, "the last is missing").answers("blocks()", 1, Counted::blocks);
        Twins more = cutTo(size, size - 1, "one more is there");
        more.answers("unpack(0)", 1, x -> x.unpack(0));
        more.refuses("unpack(1)", UNSOUND, x -> x.unpack(1));
        more.answers("blocks()", 2, Counted::blocks);
        // From bytes that are just five, and none of them of a row, down to one byte.
        for (int left = 1; left <= 5; left++) {
            int begin = size - left;
            new Twins(due, "with " + left + " left", x -> {
                cut(x, size, size);
                x.corrupt(2, begin - 5);
                for (int k = begin; k < size; k++) {
                    x.corrupt(k, k == begin ? 1 : 0);
                }
            }).refuses("unpack(1)", UNSOUND, x -> x.unpack(1));
        }
    }

    private static Twins cutTo(int size, int bytes, String name) {
        return new Twins(due, "where " + name, x -> cut(x, size, bytes));
    }

    /**
     * An archive of so many bytes, which begins with what it has room for of a block of so many. That block was there
     * whole before, so that an object that looked behind the archive's end would find the rest of it.
     */
    private static void cut(Counted x, int size, int bytes) {
        x.referring(8).enter(readOf(bytes));
        x.pack();
        int[] block = x.archive();
        x.unpack(0);
        x.clear(false);
        x.enter(readOf(size));
        due.answers("pack()", size, x::pack);
        x.overwrite(0, Arrays.copyOf(block, Math.min(size, bytes)));
    }

    /** "A BLOCK has 1 .. 3 reads". */
    private static void oneToThreeReads() {
        sound("one read", FINE);
        sound("two reads", FINE, FINE);
        sound("three reads", FINE, FINE, FINE);
        unsound("four reads", FINE, FINE, FINE, FINE);
        unsound("five reads", FINE, FINE, FINE, FINE, FINE);
        for (int reads = 1; reads <= 3; reads++) {
            ModelRead[] row = new ModelRead[reads];
            Arrays.fill(row, FINE);
            int[] coded = ModelBlock.rowOf(LONGER, List.of(row), 0);
            for (int said : new int[] {0, 1, 2, 3, 4, 255}) {
                if (said != reads) {
                    refused(reads + " reads, said to be " + said, ModelBlock.framed(said, 2, coded));
                }
            }
        }
        refused("no reads and no row", ModelBlock.framed(0, 0, new int[0]));
        refused("one read and no row", ModelBlock.framed(1, 0, new int[0]));
    }

    /** "reads that there can be with the reference": a position is 0 .. how many bases it has. */
    private static void positionsUpToTheReferencesEnd() {
        sound("position 0", read(0, Calls.INSERT, 1));
        sound("position 19", read(19, Calls.INSERT, 1));
        sound("position 20", read(20, Calls.INSERT, 1));
        unsound("position 21", read(21, Calls.INSERT, 1));
        unsound("position 22", read(22, Calls.INSERT, 1));
        unsound("position 255", read(255, Calls.INSERT, 1));
        sound("a second position 19", FINE, read(19, Calls.INSERT, 1));
        sound("a second position 20", FINE, read(20, Calls.INSERT, 1));
        unsound("a second position 21", FINE, read(21, Calls.INSERT, 1));
        sound("a third position 20", FINE, read(20, Calls.INSERT, 1), read(20, Calls.INSERT, 2));
        unsound("a third position 21", FINE, read(20, Calls.INSERT, 1), read(21, Calls.INSERT, 1));
        sound("position 160 of 160", 160, read(160, Calls.INSERT, 1));
        sound("position 0 of none", 0, read(0, Calls.INSERT, 1));
        new Twins(due, "with position 161 of 160", x -> holding(x, 160, ModelBlock.bytesOf(LONGER, List.of(
                read(161, Calls.INSERT, 1))))).refuses("unpack(0)", UNSOUND, x -> x.unpack(0));
        new Twins(due, "with position 1 of none", x -> holding(x, 0, ModelBlock.bytesOf(LONGER, List.of(
                read(1, Calls.INSERT, 1))))).refuses("unpack(0)", UNSOUND, x -> x.unpack(0));
    }

    /** "how far its position is from that of the read before it (of the first one: 0)". */
    private static void theFirstDistanceIs0() {
        ModelRead read = read(3, Calls.MATCH, 4);
        sound("a first distance 0", read);
        for (int distance = 1; distance <= 3; distance++) {
            int[] row = ModelBlock.rowOf(LONGER, List.of(read), distance);
            refused("a first distance " + distance, ModelBlock.framed(1, 3 - distance, row));
        }
    }

    /** Where "the bit for i = 8" ends a number, and before: no such number can be in a block. */
    private static void numbersThatAreTooGreat() {
        for (int v : new int[] {126, 127, 253, 254, 255, 256, 509, 510, 511, 512, 1021, 1022}) {
            unsound("distance " + v, FINE, read(2 + v, Calls.INSERT, 0));
            unsound("MATCH " + (v + 1), read(2, Calls.MATCH, v + 1));
            unsound("REMOVE " + (v + 1), read(2, Calls.INSERT, 0, Calls.REMOVE, v + 1));
            refused("a first distance " + v, ModelBlock.framed(1, 0, ModelBlock.rowOf(LONGER, List.of(
                    read(1, Calls.INSERT, 0)), v)));
        }
    }

    /** "EDITS, at most 12". */
    private static void atMost12Edits() {
        sound("11 edits", inserts(11));
        sound("12 edits", inserts(12));
        unsound("13 edits", inserts(13));
        unsound("14 edits", inserts(14));
        ModelRead eleven = inserts(11);
        sound("11 edits and a MATCH", eleven.with(Calls.MATCH, 9));
        unsound("12 edits and a MATCH", inserts(12).with(Calls.MATCH, 1));
        sound("11 edits and a REMOVE", eleven.with(Calls.REMOVE, 19));
        unsound("12 edits and a REMOVE", inserts(12).with(Calls.REMOVE, 1));
        sound("11 edits and a CHANGE", eleven.with(Calls.CHANGE, 0));
        unsound("12 edits and a CHANGE", inserts(12).with(Calls.CHANGE, 0));
    }

    /** "the read's bases, at least 1 and at most 20". */
    private static void oneTo20Bases() {
        unsound("no edits", read(2));
        unsound("no bases", read(2, Calls.REMOVE, 1));
        unsound("no bases up to the end", read(2, Calls.REMOVE, 18));
        sound("one base", read(2, Calls.REMOVE, 1, Calls.MATCH, 1));
        sound("one base inserted", read(20, Calls.INSERT, 1));
        sound("one base changed", read(2, Calls.CHANGE, 1));
        sound("19 bases", read(0, Calls.MATCH, 19));
        sound("20 bases", read(0, Calls.MATCH, 20));
        unsound("21 bases of 20", read(0, Calls.MATCH, 21));
        sound("20 bases, one inserted", read(0, Calls.INSERT, 1, Calls.MATCH, 19));
        unsound("21 bases, one inserted", read(0, Calls.INSERT, 1, Calls.MATCH, 20));
        unsound("21 bases, one inserted last", read(0, Calls.MATCH, 20, Calls.INSERT, 1));
        unsound("21 bases, two inserted last", read(0, Calls.MATCH, 19, Calls.INSERT, 1, Calls.INSERT, 1));
        sound("20 bases, one changed", read(0, Calls.MATCH, 19, Calls.CHANGE, 0));
        sound("20 bases and REMOVE", read(0, Calls.INSERT, 1, Calls.MATCH, 19, Calls.REMOVE, 1));
        wide("21 bases of 160", read(0, Calls.MATCH, 21));
        wide("21 bases of 160, one changed", read(0, Calls.MATCH, 20, Calls.CHANGE, 1));
        sound("20 bases of 160", 160, read(0, Calls.MATCH, 20));
    }

    /** Not sound, though the reference has as many bases as there can be. */
    private static void wide(String what, ModelRead... reads) {
        new Twins(due, "which holds " + what, x -> holding(x, 160, ModelBlock.bytesOf(LONGER, List.of(reads))))
                .refuses("unpack(0)", UNSOUND, x -> x.unpack(0));
    }

    private static void editsEndWithTheReference() {
        sound("MATCH short of the end", read(17, Calls.MATCH, 2));
        sound("MATCH to the end", read(17, Calls.MATCH, 3));
        unsound("MATCH beyond the end", read(17, Calls.MATCH, 4));
        unsound("MATCH at the end", read(20, Calls.MATCH, 1));
        sound("REMOVE to the end", read(17, Calls.INSERT, 0, Calls.REMOVE, 3));
        unsound("REMOVE beyond the end", read(17, Calls.INSERT, 0, Calls.REMOVE, 4));
        unsound("REMOVE at the end", read(20, Calls.INSERT, 0, Calls.REMOVE, 1));
        sound("CHANGE of the last", read(19, Calls.CHANGE, 0));
        unsound("CHANGE at the end", read(20, Calls.CHANGE, 1));
        unsound("CHANGE behind the last", read(19, Calls.MATCH, 1, Calls.CHANGE, 1));
        sound("INSERT at the end", read(19, Calls.MATCH, 1, Calls.INSERT, 1));
        sound("REMOVE 160", 160, read(0, Calls.REMOVE, 160, Calls.INSERT, 2));
        wide("REMOVE 161", read(0, Calls.REMOVE, 161, Calls.INSERT, 2));
        wide("CHANGE at 160", read(160, Calls.CHANGE, 1));
        wide("CHANGE behind 159", read(159, Calls.MATCH, 1, Calls.CHANGE, 1));
        sound("CHANGE at 159", 160, read(159, Calls.CHANGE, 1));
    }

    /** "No MATCH stands directly behind a MATCH, no REMOVE behind a REMOVE." */
    private static void noMatchBehindAMatch() {
        int[] numbers = {1, 0, 2, 1};
        for (int first = 0; first < 4; first++) {
            for (int second = 0; second < 4; second++) {
                ModelRead two = read(1, Calls.INSERT, 3, first, numbers[first], second, numbers[second]);
                ModelRead apart = read(1, Calls.INSERT, 3, first, numbers[first], Calls.INSERT, 2, second, numbers[second]);
                boolean same = first == second && (first == Calls.MATCH || first == Calls.REMOVE);
                if (same) {
                    unsound("kind " + second + " behind itself", two);
                    unsound("kind " + second + " behind itself, at first", read(1, first, 1, first, 1, Calls.INSERT, 0));
                } else {
                    sound("kind " + second + " behind " + first, two);
                }
                sound("kind " + second + " not directly behind " + first, apart);
            }
        }
    }

    /** What cannot be is refused in each read of a block, not only in the first. */
    private static void eachReadOfThree() {
        ModelRead[] wrong = {
            read(2), read(2, Calls.REMOVE, 1), read(2, Calls.MATCH, 19), read(2, Calls.INSERT, 0, Calls.REMOVE, 19),
            read(2, Calls.MATCH, 1, Calls.MATCH, 1), read(2, Calls.MATCH, 18, Calls.CHANGE, 1),
            read(2, Calls.INSERT, 0, Calls.INSERT, 0, Calls.INSERT, 0, Calls.MATCH, 18),
        };
        for (ModelRead each : wrong) {
            unsound("a wrong one of three", each, FINE, FINE);
            unsound("a wrong second of three", FINE, each, FINE);
            unsound("a wrong third of three", FINE, FINE, each);
            unsound("a wrong second of two", FINE, each);
            unsound("a wrong one alone", each);
        }
    }

    /** "with the reference": with the one that there is when the block is read. */
    private static void theReferenceOfNow() {
        int[] block = ModelBlock.bytesOf(LONGER, List.of(read(4, Calls.CHANGE, 2, Calls.MATCH, 3)));
        for (int bases = 0; bases <= 10; bases++) {
            int length = bases;
            Twins some = new Twins(due, "with a reference of " + bases, x -> {
                holding(x, REFERENCE, block);
                // That it was sound before does not count, though it was read more than once.
                due.answers("unpack(0) with the reference before", 1, () -> x.unpack(0));
                due.answers("unpack(0) with it again", 1, () -> x.unpack(0));
                x.clear(true);
                x.referring(length);
            });
            if (bases < 8) {
                some.refuses("unpack(0)", UNSOUND, x -> x.unpack(0));
            } else {
                some.answers("unpack(0)", 1, x -> x.unpack(0));
                some.answers("its first base", 2, x -> x.unpack(0) * 0 + x.base(0, 0, true));
                some.answers("its last base", 3, x -> x.unpack(0) * 0 + x.base(0, 3, true));
            }
        }
        Twins other = new Twins(due, "with another reference", x -> {
            holding(x, REFERENCE, block);
            x.clear(true);
            x.refer(0b01_10_00_11_00_00_00_00, 8);
        });
        // The second base that is not the one passed over was coded: behind 3 it is 1.
        other.answers("its first base", 1, x -> x.unpack(0) * 0 + x.base(0, 0, true));
        other.answers("its last base", 1, x -> x.unpack(0) * 0 + x.base(0, 3, true));
    }

    private static void rowsThatPackingWouldNotMake() {
        int[] row = ModelBlock.rowOf(LONGER, List.of(read(2, Calls.MATCH, 3, Calls.CHANGE, 3)), 0);
        int last = row.length - 1;
        refused("a row with a byte 1 more", ModelBlock.framed(1, 2, with(row, row.length, 1)));
        refused("a row with a byte 255 more", ModelBlock.framed(1, 2, with(row, row.length, 255)));
        refused("a row with a byte less", ModelBlock.framed(1, 2, Arrays.copyOf(row, last)));
        refused("a row one greater", ModelBlock.framed(1, 2, with(row, last, row[last] + 1)));
        refused("a row one less", ModelBlock.framed(1, 2, with(row, last, row[last] - 1)));
        // As a number these are RANGE's first value, one less, and one less still.
        refused("the row FFFFFFFF", ModelBlock.framed(1, 2, new int[] {255, 255, 255, 255}));
        refused("the row FFFFFFFE", ModelBlock.framed(1, 2, new int[] {255, 255, 255, 254}));
        refused("the row FFFFFFFD", ModelBlock.framed(1, 2, new int[] {255, 255, 255, 253}));
        int[] longest = new int[60];
        Arrays.fill(longest, 255);
        refused("a long row of bytes 255", ModelBlock.framed(3, 2, longest));
        Arrays.fill(longest, 0);
        refused("a long row of bytes 0", ModelBlock.framed(3, 2, longest));
    }

    private static int[] with(int[] row, int k, int b) {
        int[] changed = Arrays.copyOf(row, Math.max(row.length, k + 1));
        changed[k] = b;
        return changed;
    }

    /** "bytes 0 at its end are left out": with any of them left in, it is not what packing makes. */
    private static void bytes0AtTheEnd() {
        ModelRead[] reads = {
            read(9, Calls.INSERT, 0), read(4, Calls.REMOVE, 7, Calls.INSERT, 0, Calls.CHANGE, 0), read(12, Calls.MATCH, 3),
            inserts(5),
        };
        for (ModelRead each : reads) {
            int[] row = ModelBlock.rowOf(LONGER, List.of(each), 0);
            sound("a row without bytes 0 at its end", each);
            for (int more = 1; more <= 5; more++) {
                int[] longer = Arrays.copyOf(row, row.length + more);
                refused(more + " bytes 0 at a row's end", ModelBlock.framed(1, each.position, longer));
            }
        }
    }

    private static void wrongChecks() {
        int[] block = ModelBlock.bytesOf(LONGER, List.of(FINE, read(5, Calls.INSERT, 1)));
        int high = block.length - 2;
        int low = block.length - 1;
        for (int k : new int[] {high, low}) {
            for (int add : new int[] {1, 2, 128, 254, 255}) {
                refused("a check byte " + add + " more", with(block, k, (block[k] + add) % 256));
            }
        }
        refused("the check's bytes in the other order", with(with(block, high, block[low]), low, block[high]));
        refused("check 0", with(with(block, high, 0), low, 0));
        // Each byte before has its part in the check.
        for (int k = 0; k < high; k++) {
            refused("byte " + k + " one more than was checked", with(block, k, (block[k] + 1) % 256));
            refused("byte " + k + " one less than was checked", with(block, k, (block[k] + 255) % 256));
        }
    }

    /** A rest by 65521 is less than that, so 65521 does not stand for 0, nor 65522 for 1. */
    private static void aCheckHasOneForm() {
        int[] zero = {1, 41, 3, 98, 63, 252, 0, 0};
        int[] one = {1, 143, 3, 113, 245, 252, 0, 1};
        int[] most = {1, 0, 4, 127, 240, 72, 128, 255, 240};
        for (int[] block : new int[][] {zero, one, most}) {
            Counted x = new Counted();
            holding(x, 160, block);
            due.answers("unpack(0) of " + Arrays.toString(block), 1, () -> x.unpack(0));
        }
        alone("65521 in place of 0", with(with(zero, 6, 255), 7, 241));
        alone("65522 in place of 1", with(with(one, 6, 255), 7, 242));
        alone("65521 in place of 65520", with(most, 8, 241));
        alone("65519 in place of 65520", with(most, 8, 239));
        alone("1 in place of 0", with(zero, 7, 1));
        alone("0 in place of 1", with(one, 7, 0));
    }

    private static void alone(String what, int[] block) {
        new Twins(due, "with check " + what, x -> holding(x, 160, block)).refuses("unpack(0)", UNSOUND, x -> x.unpack(0));
    }

    /** A block on its own is sound with fewer than three reads, wherever it stands. */
    private static void shorterBlocksBeforeOthers() {
        int[] first = ModelBlock.bytesOf(LONGER, List.of(FINE));
        int[] second = ModelBlock.bytesOf(LONGER, List.of(read(1, Calls.MATCH, 5), read(1, Calls.INSERT, 0)));
        Counted x = new Counted();
        int[] both = Arrays.copyOf(first, first.length + second.length);
        System.arraycopy(second, 0, both, first.length, second.length);
        holding(x, REFERENCE, both);
        due.answers("unpack(0) of one read", 1, () -> x.unpack(0));
        due.answers("unpack(1) of two reads", 2, () -> x.unpack(1));
        due.answers("a block that is at a lower position", 1, () -> x.about(0, 0, true));
    }

    /** What was read before, sound or not, leaves nothing behind: not even where bytes 0 were left out. */
    private static void aBlockIsReadOnItsOwn() {
        int[] wrong = new int[24];
        Arrays.fill(wrong, 255);
        ModelRead[] reads = {
            read(39, 3, 73, 1, 3), read(9, 0, 3, 2, 1, 1, 1, 2, 2, 3, 127), read(144, 3, 7, 2, 0, 1, 0), read(79, 2, 0),
            read(51, 2, 1, 2, 3),
        };
        for (ModelRead each : reads) {
            Counted x = new Counted();
            holding(x, 160, ModelBlock.framed(3, 2, wrong));
            due.refuses("unpack(0) of bytes 255", UNSOUND, () -> x.unpack(0));
            x.overwrite(0, ModelBlock.bytesOf(LONGER, List.of(each)));
            due.answers("unpack(0) behind it", 1, () -> x.unpack(0));
            due.answers("position behind it", each.position, () -> x.about(0, 0, true));
            due.answers("edits behind it", each.edits.size(), () -> x.about(0, 2, true));
            due.answers("passed over behind it", each.passed(), () -> x.about(0, 3, true));
        }
    }

    /** A third byte 255, the most that a byte can say, in an archive that has so many bytes and more. */
    private static void theLongestRowThatCanBeSaid() {
        ModelRead[] dear = {
            read(3, 3, 31, 1, 1, 1, 0, 0, 1, 2, 3, 1, 0, 2, 1, 1, 1, 3, 97, 0, 3, 2, 2, 0, 1),
            read(10, 3, 20, 1, 3, 1, 0, 3, 45, 0, 2, 1, 2, 3, 33, 0, 8, 2, 1, 3, 1, 2, 2),
            read(25, 1, 2, 0, 3, 3, 33, 2, 1, 1, 1, 0, 3, 3, 26, 2, 3, 1, 1, 3, 3, 0, 5, 1, 3),
        };
        Counted x = new Counted().referring(160);
        for (int i = 0; i < 24; i++) {
            x.enter(dear[i / 8]);
        }
        due.equal("260 bytes are all there", x.pack() > 260 ? 1 : 0, 1);
        due.answers("unpack(7)", 3, () -> x.unpack(7));
        int third = x.at(2);
        for (int said : new int[] {255, 254}) {
            x.corrupt(2, said);
            // The next block begins behind it, and would end far behind the archive.
            x.corrupt(5 + said + 2, 255);
            due.answers("blocks() with a third byte " + said, 2, x::blocks);
            due.refuses("unpack(0) with a third byte " + said, UNSOUND, () -> x.unpack(0));
            due.refuses("unpack(1) with a third byte " + said, UNSOUND, () -> x.unpack(1));
            due.refuses("depth(3) with a third byte " + said, UNSOUND, () -> x.depth(3));
            due.answers("depth(2) with a third byte " + said, 0, () -> x.depth(2));
        }
        due.answers("the shelf behind that", 25, () -> x.about(0, 0, true));
        x.corrupt(2, third);
        due.answers("unpack(0) as it was", 3, () -> x.unpack(0));
    }

    /** Every row of no byte, one byte and two, with a right check: sound just when the model finds it so. */
    private static void allShortRows() {
        List<Integer> four = LONGER.subList(0, 4);
        int found = 0;
        Counted x = shortHolding();
        for (int row = 0; row < 256 + 256 * 256; row++) {
            int[] bytes = row < 256 ? new int[] {row} : new int[] {(row - 256) >> 8, row & 255};
            int[] block = ModelBlock.framed(1, 0, bytes);
            if (x.calls() > Counted.MAX_CALLS - 20) {
                x = shortHolding();
            }
            Counted holder = x;
            holder.overwrite(2, Arrays.copyOfRange(block, 2, block.length));
            List<ModelRead> want = ModelBlock.readsOf(four, block);
            if (want == null) {
                due.refuses("unpack(0) of row " + Arrays.toString(bytes), UNSOUND, () -> holder.unpack(0));
            } else {
                found++;
                due.answers("unpack(0) of row " + Arrays.toString(bytes), 1, () -> holder.unpack(0));
            }
        }
        due.equal("some short rows are sound", found > 0 && found < 1000 ? 1 : 0, 1);
    }

    private static Counted shortHolding() {
        Counted x = new Counted().referring(4);
        x.read(0, Calls.INSERT, 1, Calls.INSERT, 3, Calls.INSERT, 0, Calls.INSERT, 2);
        x.pack();
        return x;
    }
}
