/** The bounds of promises 11 to 14: blocks, size, at, corrupt; and of where a block begins. */
public final class ArchiveBoundsTest {
    private static final Due due = new Due();
    private static final Class<IndexOutOfBoundsException> NONE_SUCH = IndexOutOfBoundsException.class;

    /** Two blocks, the first of them on the shelf, and a read under way. */
    private static final Twins TWO = new Twins(due, "of two blocks", x -> {
        x.referring(16);
        for (int i = 0; i < 4; i++) {
            x.read(i, Calls.MATCH, 1 + i, Calls.INSERT, i);
        }
        x.pack();
        x.unpack(0);
        x.begin(1, Calls.MATCH, 2);
    });
    private static final Twins NONE = new Twins(due, "of an empty archive", x -> x.referring(16));

    public static void main(String[] args) {
        bytesOfTheArchive();
        corruptWritesBytes();
        corruptRefusesOtherBytes();
        noByteComesBeforeWrongB();
        corruptChangesOneByte();
        sizeIsOfTheArchive();
        bytesLeftBehindABlock();
        theThirdByteAtItsLeastAndMost();
        soundOrNot();
        manyBlocks();
        due.end("ArchiveBoundsTest");
    }

    /** "Byte k of the archive. IndexOutOfBoundsException when there is none." */
    private static void bytesOfTheArchive() {
        int size = TWO.one().size();
        for (int k : new int[] {-1, -2, Integer.MIN_VALUE, size, size + 1, 2080, Integer.MAX_VALUE}) {
            TWO.refuses("at(" + k + ")", NONE_SUCH, x -> x.at(k));
            TWO.refuses("corrupt(" + k + ", 0)", NONE_SUCH, x -> x.corrupt(k, 0));
        }
        TWO.answers("at(0)", 3, x -> x.at(0));
        TWO.answers("at(1)", 0, x -> x.at(1));
        Counted x = TWO.one();
        int check = 7;
        for (int k = 5 + x.at(2); k < size - 2; k++) {
            check = (31 * check + x.at(k)) % 65521;
        }
        int last = check;
        TWO.answers("the last byte but one", last / 256, y -> y.at(size - 2));
        TWO.answers("the last byte", last % 256, y -> y.at(size - 1));
        for (int k : new int[] {-1, 0, 1, Integer.MIN_VALUE, Integer.MAX_VALUE}) {
            NONE.refuses("at(" + k + ")", NONE_SUCH, y -> y.at(k));
            NONE.refuses("corrupt(" + k + ", 0)", NONE_SUCH, y -> y.corrupt(k, 0));
        }
    }

    /** "Writes b over byte k of the archive": b is 0 .. 255. */
    private static void corruptWritesBytes() {
        int size = TWO.one().size();
        for (int k : new int[] {0, 1, size / 2, size - 2, size - 1}) {
            for (int b : new int[] {0, 1, 127, 128, 254, 255}) {
                TWO.answers("at(" + k + ") behind corrupt(" + k + ", " + b + ")", b, x -> x.corrupt(k, b) + x.at(k));
            }
        }
    }

    /** "IllegalArgumentException when b is not 0 .. 255." */
    private static void corruptRefusesOtherBytes() {
        int size = TWO.one().size();
        for (int k : new int[] {0, 1, 2, size - 1}) {
            for (int b : new int[] {-1, -128, -256, Integer.MIN_VALUE, 256, 257, 511, 512, Integer.MAX_VALUE}) {
                TWO.refuses("corrupt(" + k + ", " + b + ")", IllegalArgumentException.class, x -> x.corrupt(k, b));
            }
        }
    }

    private static void noByteComesBeforeWrongB() {
        int size = TWO.one().size();
        for (int b : new int[] {-1, 256, Integer.MIN_VALUE, Integer.MAX_VALUE}) {
            TWO.refuses("corrupt(-1, " + b + ")", NONE_SUCH, x -> x.corrupt(-1, b));
            TWO.refuses("corrupt(size, " + b + ")", NONE_SUCH, x -> x.corrupt(size, b));
            NONE.refuses("corrupt(0, " + b + ")", NONE_SUCH, x -> x.corrupt(0, b));
        }
    }

    private static void corruptChangesOneByte() {
        int[] before = TWO.one().archive();
        for (int k = 0; k < before.length; k++) {
            Counted x = TWO.one();
            x.corrupt(k, before[k] ^ 255);
            int[] after = x.archive();
            for (int i = 0; i < before.length; i++) {
                due.equal("byte " + i + " behind corrupt of " + k, after[i], i == k ? before[i] ^ 255 : before[i]);
            }
            due.answers("reads() behind corrupt", 4, x::reads);
            due.answers("the shelf behind corrupt", 2, () -> x.about(2, 0, true));
            due.answers("finish() behind corrupt", 4, x::finish);
        }
    }

    /** "How many bytes the archive has": only pack changes that. */
    private static void sizeIsOfTheArchive() {
        NONE.answers("size()", 0, Counted::size);
        int size = TWO.one().size();
        TWO.answers("what pack() answers", size, Counted::pack);
        TWO.answers("size() behind a third byte 0", size, x -> x.corrupt(2, 0) + x.size());
        TWO.answers("size() behind a third byte 255", size, x -> x.corrupt(2, 255) + x.size());
        TWO.answers("size() behind clear(false)", size, x -> x.clear(false) + x.size());
        TWO.answers("size() behind clear(true)", size, x -> x.clear(true) + x.size());
        TWO.answers("size() behind unpack(1)", size + 1, x -> x.unpack(1) + x.size());
        TWO.answers("size() behind finish()", size + 4, x -> x.finish() + x.size());
    }

    /** "How many blocks begin in the archive": one begins when a single byte is left, none when no byte is. */
    private static void bytesLeftBehindABlock() {
        int size = TWO.one().size();
        int[] wantBlocks = {1, 2, 2, 2, 2, 2, 3};
        for (int left = 0; left < wantBlocks.length; left++) {
            int third = size - 5 - left;
            int want = wantBlocks[left];
            int begin = size - left;
            Twins cut = new Twins(due, "with " + left + " bytes left", x -> {
                x.referring(16);
                for (int i = 0; i < 4; i++) {
                    x.read(i, Calls.MATCH, 1 + i, Calls.INSERT, i);
                }
                x.pack();
                x.corrupt(2, third);
                // A third byte 0, where there is one: then five bytes are a whole block, and a sixth begins another.
                for (int k = begin; k < size; k++) {
                    x.corrupt(k, 0);
                }
            });
            cut.answers("blocks()", want, Counted::blocks);
            for (int block = 0; block < want; block++) {
                int at = block;
                cut.refuses("unpack(" + block + ")", IllegalArgumentException.class, x -> x.unpack(at));
            }
            cut.refuses("unpack(" + want + ")", NONE_SUCH, x -> x.unpack(want));
            cut.refuses("unpack(" + (want + 1) + ")", NONE_SUCH, x -> x.unpack(want + 1));
        }
    }

    /** "its bytes (as many as its third byte says, and five)". */
    private static void theThirdByteAtItsLeastAndMost() {
        Counted x = TWO.one();
        int row = x.at(2);
        int size = x.size();
        due.answers("blocks()", 2, x::blocks);
        // The block reaches just to the archive's end, one byte less far, and one byte farther.
        TWO.answers("blocks(), to the end", 1, y -> y.corrupt(2, size - 5) + y.blocks());
        TWO.answers("blocks(), one byte less", 2, y -> y.corrupt(2, size - 6) + y.blocks());
        TWO.answers("blocks(), one byte more", 1, y -> y.corrupt(2, size - 4) + y.blocks());
        TWO.answers("blocks(), third byte 255", 1, y -> y.corrupt(2, 255) + y.blocks());
        TWO.answers("blocks(), third byte 254", 1, y -> y.corrupt(2, 254) + y.blocks());
        TWO.answers("blocks(), as it was", 2, y -> y.corrupt(2, row) + y.blocks());
        TWO.answers("blocks(), second block longer", 2, y -> y.corrupt(7 + row, 255) + y.blocks());
        // With a third byte 0 the next block begins at byte 5, whatever stands there.
        TWO.answers("blocks(), third bytes 0 and 255", 2, y -> y.corrupt(2, 0) + y.corrupt(7, 255) + y.blocks());
        TWO.answers("blocks(), to the end in two", 2, y -> y.corrupt(2, 0) + y.corrupt(7, size - 10) + y.blocks());
        TWO.answers("blocks(), to the end but one", 3, y -> y.corrupt(2, 0) + y.corrupt(7, size - 11) + y.blocks());
    }

    /** "Where a block begins is told by those before it, sound or not." */
    private static void soundOrNot() {
        Counted x = TWO.one();
        int second = 5 + x.at(2);
        int size = x.size();
        // Any byte of the first block but the third may be wrong.
        for (int k = 0; k < second; k++) {
            if (k != 2) {
                int at = k;
                TWO.answers("blocks() with byte " + k + " wrong", 2, y -> y.corrupt(at, y.at(at) ^ 1) + y.blocks());
                TWO.answers("unpack(1) with byte " + k + " wrong", 1, y -> y.corrupt(at, y.at(at) ^ 1) + y.unpack(1));
            }
        }
        // Its third byte tells another begin, and what was the second block is none any more.
        TWO.answers("blocks() with the third byte wrong", 2, y -> y.corrupt(2, y.at(2) + 1) + y.blocks());
        new Twins(due, "with the third byte wrong", y -> {
            y.referring(16);
            for (int i = 0; i < 4; i++) {
                y.read(i, Calls.MATCH, 1 + i, Calls.INSERT, i);
            }
            y.pack();
            y.corrupt(2, y.at(2) + 1);
        }).refuses("unpack(1)", IllegalArgumentException.class, y -> y.unpack(1));
        // The last block may be moved to begin at byte 5, behind a block of five bytes that is not sound.
        Counted moved = TWO.one();
        int[] last = new int[size - second];
        for (int k = 0; k < last.length; k++) {
            last[k] = moved.at(second + k);
        }
        moved.corrupt(2, 0);
        moved.overwrite(5, last);
        due.answers("unpack(1) of a block that was moved", 1, () -> moved.unpack(1));
        due.answers("its read's position", 3, () -> moved.about(0, 0, true));
        due.refuses("unpack(0) before it", IllegalArgumentException.class, () -> moved.unpack(0));
    }

    /** With bytes 0 alone, a block begins at each fifth byte. */
    private static void manyBlocks() {
        int size = TWO.one().size();
        Counted x = TWO.one();
        for (int k = 0; k < size; k++) {
            x.corrupt(k, 0);
        }
        int want = (size + 4) / 5;
        due.answers("blocks() of bytes 0", want, x::blocks);
        due.refuses("the last of them", IllegalArgumentException.class, () -> x.unpack(want - 1));
        due.refuses("one more", NONE_SUCH, () -> x.unpack(want));
        due.answers("pack() behind them", size, x::pack);
        due.answers("blocks() behind pack()", 2, x::blocks);
    }
}
