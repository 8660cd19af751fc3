import java.util.List;

/** Makes reads, and objects whose archive begins with given bytes. */
final class Blocks {
    private Blocks() {
    }

    /** Sixteen bases more, in the object and in the list. */
    static void refer(SlicedReads x, List<Integer> reference, int w) {
        x.refer(w, 16);
        for (int i = 0; i < 16; i++) {
            reference.add((w >>> (2 * i)) & 3);
        }
    }

    /** A read that there can be, with as many edits as come about in some tries. */
    static ModelRead thrown(Dice dice, List<Integer> reference, int positions, int tries) {
        ModelRead read = new ModelRead(dice.below(Math.min(positions, reference.size() + 1)));
        for (int i = 0; i < tries; i++) {
            int kind = dice.below(4);
            int number = kind % 3 == 0 ? 1 + dice.below(dice.oneIn(3) ? 20 : 3) : dice.below(4);
            ModelRead more = read.with(kind, number);
            if (more.isMadeOfEdits(reference) && more.edits.size() <= 12 && more.bases(reference).size() <= 20) {
                read = more;
            }
        }
        return read.canBe(reference) ? read : new ModelRead(read.position, Calls.INSERT, dice.below(4));
    }

    /** The read with INSERTs behind it whose block, alone, has just so many bytes. */
    static ModelRead lengthened(List<Integer> reference, ModelRead read, int bytes) {
        for (int way = 0; way < 12 * 64; way++) {
            ModelRead longer = read;
            for (int i = 0; i <= way / 64; i++) {
                longer = longer.with(Calls.INSERT, (way >> i % 5) & 3);
            }
            if (longer.canBe(reference) && ModelBlock.bytesOf(reference, List.of(longer)).length == bytes) {
                return longer;
            }
        }
        throw new AssertionError("no block of " + bytes + " bytes");
    }

    static int enter(SlicedReads x, ModelRead read) {
        x.start(read.position);
        for (int[] edit : read.edits) {
            x.edit(edit[0], edit[1]);
        }
        return x.finish();
    }

    /** An object with this reference whose archive begins with these bytes, and has at least ten more. */
    static SlicedReads holding(List<Integer> reference, int[] bytes) {
        SlicedReads x = new SlicedReads();
        for (int base : reference) {
            x.refer(base, 1);
        }
        while (x.pack() < bytes.length + 10) {
            x.start(0);
            for (int i = 0; i < 12; i++) {
                x.edit(Calls.INSERT, (i * i + i / 3) % 4);
            }
            x.finish();
        }
        Calls.overwrite(x, bytes);
        return x;
    }
}
