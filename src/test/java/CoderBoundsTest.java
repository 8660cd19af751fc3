import java.util.ArrayList;
import java.util.Arrays;
import java.util.List;

/**
 * The bounds of what 'Terms' says of the coder and of a number. The blocks whose LOW or RANGE comes just to a
 * bound were found by search; the model tells again that they do, and their bytes are written out here too.
 */
public final class CoderBoundsTest {
    private static final Due due = new Due();
    private static final long LOW_END = 1L << 32;
    private static final long RANGE_END = 1L << 24;
    /** 0 1 2 3, forty times. */
    private static final List<Integer> LONGEST = new ArrayList<>();

    public static void main(String[] args) {
        for (int i = 0; i < 160; i++) {
            LONGEST.add(i % 4);
        }
        lowIs2To32OrMore();
        theLastByteWouldBe256();
        rangeIsLessThan2To24();
        bytes0AtTheEndAreLeftOut();
        theCheckIsARestBy65521();
        numbersOfDistances();
        numbersOfMatches();
        numbersOfRemovals();
        everyChange();
        everyInsert();
        likelihoodsLearn();
        likelihoodsBelongToTheKindBefore();
        likelihoodsAre1024InEachBlock();
        due.end("CoderBoundsTest");
    }

    private static ModelRead read(int... positionAndEdits) {
        return new ModelRead(positionAndEdits[0], Arrays.copyOfRange(positionAndEdits, 1, positionAndEdits.length));
    }

    /** The block has just these bytes; it can be unpacked, and gives the same reads; answers how it was coded. */
    private static ModelBlock packs(String what, int[] want, ModelRead... reads) {
        List<ModelRead> row = List.of(reads);
        due.equal("the model's bytes of " + what, Arrays.equals(ModelBlock.bytesOf(LONGEST, row), want) ? 1 : 0, 1);
        packs(what, reads);
        Counted x = entered(reads);
        due.answers("pack() of " + what, want.length, x::pack);
        for (int k = 0; k < want.length; k++) {
            int at = k;
            due.answers("byte " + k + " of " + what, want[k], () -> x.at(at));
        }
        return ModelBlock.coderOf(LONGEST, row, 0);
    }

    /** The same, with the bytes that the model gives. */
    private static void packs(String what, ModelRead... reads) {
        Counted x = entered(reads);
        x.pack();
        int[] want = ModelBlock.bytesOf(LONGEST, List.of(reads));
        due.equal("bytes of " + what, Arrays.equals(x.archive(), want) ? 1 : 0, 1);
        due.answers("unpack(0) of " + what, reads.length, () -> x.unpack(0));
        for (int i = 0; i < reads.length; i++) {
            onShelf(x, what, i, reads[i]);
        }
    }

    private static Counted entered(ModelRead... reads) {
        Counted x = new Counted().referring(160);
        for (ModelRead read : reads) {
            x.enter(read);
        }
        return x;
    }

    private static void onShelf(Counted x, String what, int read, ModelRead want) {
        due.answers("position in " + what, want.position, () -> x.about(read, 0, true));
        due.answers("edits in " + what, want.edits.size(), () -> x.about(read, 2, true));
        due.answers("passed over in " + what, want.passed(), () -> x.about(read, 3, true));
        List<Integer> bases = want.bases(LONGEST);
        due.answers("bases in " + what, bases.size(), () -> x.about(read, 1, true));
        for (int k = 0; k < bases.size(); k++) {
            int at = k;
            due.answers("base " + k + " in " + what, bases.get(k), () -> x.base(read, at, true));
        }
    }

    private static void comesTo(String what, long bound, List<Long> seen) {
        due.equal(what + " comes just to " + bound, seen.contains(bound) ? 1 : 0, 1);
    }

    /** "If LOW is 2^32 or more then, it falls by 2^32, and the last byte of the row grows by 1". */
    private static void lowIs2To32OrMore() {
        ModelBlock below = packs("LOW one below", new int[] {3, 130, 16, 98, 255, 153, 34, 238, 80, 114, 244, 211, 24, 28, 1,
            49, 70, 22, 226, 91, 103}, read(130, 1, 0, 0, 3, 3, 23, 0, 2), read(148, 1, 2, 2, 0, 1, 2),
                read(158, 1, 0, 3, 1, 2, 3, 2, 2, 2, 3, 2, 0, 2, 0));
        comesTo("LOW", LOW_END - 1, below.lows);
        ModelBlock on = packs("LOW on 2^32", new int[] {1, 7, 3, 119, 255, 2, 41, 232}, read(7, 2, 3, 3, 33));
        comesTo("LOW", LOW_END, on.lows);
        ModelBlock beyond = packs("LOW one beyond", new int[] {2, 95, 12, 127, 155, 170, 205, 154, 252, 76, 115, 7, 130, 216,
            100, 254, 25}, read(95, 3, 22, 2, 2, 2, 3, 0, 1, 2, 1, 0, 3, 1, 2), read(95, 2, 0, 1, 2, 1, 3, 1, 0, 3, 12));
        comesTo("LOW", LOW_END + 1, beyond.lows);
        ModelBlock never = packs("LOW never there", new int[] {1, 79, 3, 112, 255, 252, 232, 77}, read(79, 2, 0));
        due.equal("carries of LOW never there", never.carries.size(), 0);
    }

    /** "where that would be 256 it becomes 0, and the one before it grows by 1, and so on". */
    private static void theLastByteWouldBe256() {
        carries(0, new int[] {1, 88, 3, 56, 63, 252, 217, 192}, read(88, 0, 8));
        carries(1, new int[] {2, 80, 5, 110, 244, 0, 131, 192, 235, 142}, read(80, 1, 3), read(101, 0, 15));
        carries(2, new int[] {2, 76, 8, 60, 146, 0, 0, 61, 213, 106, 144, 80, 156}, read(76, 0, 20),
                read(76, 0, 12, 1, 3, 0, 7));
        carries(3, new int[] {2, 35, 9, 47, 29, 0, 0, 0, 35, 254, 83, 61, 157, 137}, read(35, 0, 3, 2, 0, 2, 1, 2, 2),
                read(39, 0, 3, 2, 0, 1, 3));
        carries(4, new int[] {3, 92, 23, 127, 62, 182, 215, 75, 0, 0, 0, 0, 5, 83, 58, 225, 187, 219, 139, 91, 10, 9, 250,
            35, 254, 96, 66, 72}, read(92, 3, 11, 2, 2, 2, 2, 2, 0, 0, 3, 1, 1, 3, 44, 1, 1, 0, 1, 2, 3),
                read(107, 2, 0, 1, 0, 2, 1, 1, 1, 3, 2, 0, 3, 1, 3, 1, 0), read(111, 2, 2, 2, 0, 2, 2, 1, 2, 3, 10));
    }

    private static void carries(int through, int[] want, ModelRead... reads) {
        ModelBlock coder = packs("a carry through " + through + " bytes 255", want, reads);
        due.equal("a carry goes through " + through, coder.carries.contains(through) ? 1 : 0, 1);
    }

    /** "As long as RANGE is less than 2^24, LOW / 2^24 (without remainder) comes to the end of the row". */
    private static void rangeIsLessThan2To24() {
        ModelBlock below = packs("RANGE one below", new int[] {3, 93, 8, 113, 63, 19, 168, 251, 20, 232, 191, 92, 209},
                read(93, 2, 0), read(93, 2, 3, 2, 1), read(93, 0, 1, 2, 3, 2, 1, 1, 3));
        comesTo("RANGE", RANGE_END - 1, below.ranges);
        ModelBlock on = packs("RANGE on 2^24", new int[] {1, 79, 3, 112, 255, 252, 232, 77}, read(79, 2, 0));
        comesTo("RANGE", RANGE_END, on.ranges);
        ModelBlock beyond = packs("RANGE one beyond", new int[] {3, 13, 15, 37, 9, 220, 138, 99, 33, 162, 142, 24, 150, 210,
            141, 5, 205, 21, 51, 29}, read(13, 0, 2), read(13, 3, 2, 2, 3, 0, 2, 2, 2, 2, 2, 2, 2),
                read(13, 1, 0, 3, 108, 2, 3, 3, 33, 1, 0, 2, 2));
        comesTo("RANGE", RANGE_END + 1, beyond.ranges);
    }

    /** "the four bytes of LOW, the highest first, come to the row, and then bytes 0 at its end are left out". */
    private static void bytes0AtTheEndAreLeftOut() {
        zeros(0, new int[] {2, 90, 6, 117, 115, 174, 152, 188, 64, 124, 146}, read(90, 2, 2), read(99, 2, 1));
        zeros(1, new int[] {1, 124, 3, 43, 255, 252, 44, 27}, read(124, 0, 3));
        zeros(2, new int[] {1, 79, 3, 112, 255, 252, 232, 77}, read(79, 2, 0));
        zeros(3, new int[] {1, 144, 3, 126, 248, 196, 73, 70}, read(144, 3, 7, 2, 0, 1, 0));
        zeros(4, new int[] {1, 39, 3, 127, 226, 115, 79, 107}, read(39, 3, 73, 1, 3));
        // One more than LOW has bytes.
        zeros(5, new int[] {1, 9, 4, 47, 57, 212, 127, 133, 253}, read(9, 0, 3, 2, 1, 1, 1, 2, 2, 3, 127));
        packs("a row of two bytes", new int[] {1, 51, 2, 115, 220, 254, 107}, read(51, 2, 1, 2, 3));
    }

    private static void zeros(int count, int[] want, ModelRead... reads) {
        ModelBlock coder = packs(count + " bytes 0 at the end", want, reads);
        due.equal("bytes 0 at the end", coder.zeros(), count);
    }

    /** "c is 7 at first, and for each byte of the block before becomes the rest of 31 c + byte by 65521". */
    private static void theCheckIsARestBy65521() {
        packs("check 0", new int[] {1, 41, 3, 98, 63, 252, 0, 0}, read(41, 1, 0, 0, 2));
        packs("check 1", new int[] {1, 143, 3, 113, 245, 252, 0, 1}, read(143, 2, 0, 3, 3));
        packs("check 255", new int[] {1, 102, 3, 39, 215, 252, 0, 255}, read(102, 0, 2, 3, 3));
        packs("check 256", new int[] {1, 61, 3, 102, 157, 252, 1, 0}, read(61, 1, 0, 1, 1));
        packs("check 65520", new int[] {1, 0, 4, 127, 240, 72, 128, 255, 240}, read(0, 3, 132, 1, 1));
    }

    /** "let k be the greatest with 2^k <= v + 1": all numbers from 0 on, so on both sides of each power. */
    private static void numbersOfDistances() {
        for (int v = 0; v <= 160; v++) {
            packs("distance " + v, read(0, Calls.INSERT, 1), read(v, Calls.INSERT, 2));
        }
        packs("distances 0 and 160", read(0, Calls.INSERT, 1), read(0, Calls.INSERT, 3), read(160, Calls.INSERT, 2));
        packs("distances 160 and 0", read(0, Calls.INSERT, 1), read(160, Calls.INSERT, 3), read(160, Calls.INSERT, 2));
        packs("distances 63 and 64", read(30, Calls.INSERT, 1), read(93, Calls.INSERT, 3), read(157, Calls.INSERT, 2));
    }

    private static void numbersOfMatches() {
        for (int n = 1; n <= 20; n++) {
            packs("MATCH " + n, read(140, Calls.MATCH, n));
            packs("MATCH " + n + " thrice", read(3, Calls.MATCH, n), read(3, Calls.MATCH, n), read(140, Calls.MATCH, n));
        }
    }

    private static void numbersOfRemovals() {
        for (int n = 1; n <= 160; n++) {
            packs("REMOVE " + n, read(0, Calls.REMOVE, n, Calls.INSERT, n % 4));
            packs("REMOVE " + n + " at the end", read(160 - n, Calls.INSERT, n % 4, Calls.REMOVE, n));
        }
        // The highest likelihood of a group and the first ones behind it are not the same.
        for (int n = 120; n <= 136; n++) {
            packs("REMOVE " + n + " behind MATCH", read(0, Calls.MATCH, 1, Calls.REMOVE, n, Calls.CHANGE, (n + 3) % 4),
                    read(0, Calls.MATCH, 2, Calls.CHANGE, 0, Calls.INSERT, 1, Calls.REMOVE, n, Calls.MATCH, 3,
                            Calls.INSERT, 2),
                    read(n, Calls.MATCH, 1, Calls.INSERT, 3, Calls.MATCH, 2, Calls.REMOVE, 1));
        }
        packs("REMOVE 160 thrice", read(0, Calls.REMOVE, 160, Calls.INSERT, 0), read(0, Calls.REMOVE, 160, Calls.INSERT, 0),
                read(0, Calls.REMOVE, 160, Calls.INSERT, 0));
    }

    /** "c is b if b is less than a, else b - 1", by likelihoods "that belong to a". */
    private static void everyChange() {
        for (int a = 0; a < 4; a++) {
            for (int b = 0; b < 4; b++) {
                if (a == b) {
                    continue;
                }
                packs("CHANGE of " + a + " to " + b, read(a, Calls.CHANGE, b));
                for (int c = 0; c < 4; c++) {
                    if (c != (a + 1) % 4) {
                        packs("CHANGE of " + a + " to " + b + ", then to " + c,
                                read(a, Calls.CHANGE, b, Calls.CHANGE, c, Calls.REMOVE, 2, Calls.CHANGE, b));
                    }
                }
            }
        }
        packs("the last base changed", read(159, Calls.CHANGE, 0));
    }

    /** "a bit for b / 2 by one likelihood, then one for what is left over, by one of two". */
    private static void everyInsert() {
        for (int a = 0; a < 4; a++) {
            packs("INSERT " + a, read(160, Calls.INSERT, a));
            for (int b = 0; b < 4; b++) {
                for (int c = 0; c < 4; c++) {
                    packs("INSERT " + a + ", " + b + ", " + c, read(5, Calls.INSERT, a, Calls.INSERT, b, Calls.INSERT, c));
                }
            }
        }
    }

    /** "p grows by (2048 - p) / 16 [...] p falls by p / 16 (both without remainder)", as often as a block allows. */
    private static void likelihoodsLearn() {
        for (int b = 0; b < 4; b++) {
            ModelRead same = new ModelRead(12);
            ModelRead turns = new ModelRead(12);
            for (int i = 0; i < 12; i++) {
                same = same.with(Calls.INSERT, b);
                turns = turns.with(Calls.INSERT, i % 2 == 0 ? b : 3 - b);
            }
            packs("36 times INSERT " + b, same, same, same);
            packs("INSERT " + b + " in turns", turns, turns, turns);
            packs("INSERT " + b + " and in turns", same, turns, same);
        }
        packs("CHANGEs", read(0, 1, 1, 1, 2, 1, 3, 1, 0, 1, 1, 1, 2, 1, 3, 1, 0, 1, 1, 1, 2, 1, 3, 1, 0),
                read(4, 1, 1, 1, 2, 1, 3, 1, 0, 1, 1, 1, 2, 1, 3, 1, 0, 1, 1, 1, 2, 1, 3, 1, 0));
    }

    /** "by four likelihoods that belong to the kind of the edit before it (or to none)". */
    private static void likelihoodsBelongToTheKindBefore() {
        int[] numbers = {1, 3, 2, 1};
        for (int first = 0; first < 4; first++) {
            for (int second = 0; second < 4; second++) {
                ModelRead read = new ModelRead(0).with(first, numbers[first]).with(second, numbers[second])
                        .with(Calls.INSERT, 0);
                packs("kinds " + first + " and " + second, read, read, read);
            }
        }
        // The last edit of a read is not before the first one of the next.
        packs("MATCH, then a read", read(4, Calls.MATCH, 1), read(4, Calls.INSERT, 1), read(5, Calls.MATCH, 1));
        packs("REMOVE, then a read", read(4, Calls.MATCH, 1, Calls.REMOVE, 1), read(4, Calls.CHANGE, 1),
                read(5, Calls.MATCH, 1));
    }

    /** "LIKELIHOODS, all 1024 at first in each block". */
    private static void likelihoodsAre1024InEachBlock() {
        ModelRead read = read(17, Calls.MATCH, 5, Calls.CHANGE, 0, Calls.INSERT, 3, Calls.REMOVE, 70, Calls.MATCH, 1);
        Counted one = entered(read, read, read);
        Counted three = entered(read, read, read, read, read, read, read, read, read);
        int size = one.pack();
        due.answers("pack() of three such blocks", 3 * size, three::pack);
        int[] block = one.archive();
        int[] blocks = three.archive();
        for (int k = 0; k < blocks.length; k++) {
            due.equal("byte " + k + " of three such blocks", blocks[k], block[k % size]);
        }
        due.answers("unpack(2)", 3, () -> three.unpack(2));
        due.answers("unpack(0)", 3, () -> three.unpack(0));
    }
}
