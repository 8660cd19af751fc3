import java.util.Arrays;

/**
 * Keeps reads of a long row of bases as what they differ in from a reference, packs them into
 * blocks by a coder that learns how likely each decision is, and reads any block on its own again,
 * refusing all bytes that packing would not have made.
 */
public final class SlicedReads {
    public static final int NONE = -1;

    private static final int MAX_REFERENCE = 160;
    private static final int MAX_REFERRED = 16;
    private static final int MAX_READS = 24;
    private static final int MAX_EDITS = 12;
    private static final int MAX_BASES = 20;
    private static final int BASES = 4;

    private static final int MATCH = 0;
    private static final int CHANGE = 1;
    private static final int INSERT = 2;
    private static final int REMOVE = 3;
    /** Coded like a kind, behind the last edit of a read. */
    private static final int END = 4;
    /** Stands for the kind of the edit before the first one of a read. */
    private static final int BEFORE_FIRST = 4;

    private static final int BLOCK_READS = 3;
    private static final int HEAD_BYTES = 3;
    private static final int CHECK_BYTES = 2;
    private static final int FRAME_BYTES = HEAD_BYTES + CHECK_BYTES;
    private static final int MAX_BYTE = 255;
    private static final int MAX_BLOCK_BYTES = FRAME_BYTES + MAX_BYTE;
    private static final int MAX_BLOCKS = MAX_READS / BLOCK_READS;
    private static final int CHECK_START = 7;
    private static final int CHECK_FACTOR = 31;
    private static final int CHECK_MODULUS = 65521;

    private static final long FULL_RANGE = (1L << 32) - 1;
    private static final long LOW_END = 1L << 32;
    private static final long TOP_BYTE = 1L << 24;
    private static final int LOW_BYTES = 4;
    private static final int CERTAIN = 2048;
    private static final int EVEN = 1024;
    private static final int SLOWNESS = 16;

    /** Where the likelihoods of each use begin in the one row that holds them all. */
    private static final int GROUP_SIZE = 9;
    private static final int DISTANCES = 0;
    private static final int MATCHES = DISTANCES + GROUP_SIZE;
    private static final int REMOVALS = MATCHES + GROUP_SIZE;
    private static final int KINDS = REMOVALS + GROUP_SIZE;
    private static final int KIND_SIZE = 4;
    private static final int CHANGES = KINDS + KIND_SIZE * (BEFORE_FIRST + 1);
    private static final int CHANGE_SIZE = 2;
    private static final int INSERT_HIGH = CHANGES + CHANGE_SIZE * BASES;
    private static final int INSERT_LOW = INSERT_HIGH + 1;
    private static final int LIKELIHOODS = INSERT_LOW + 2;
    /** In place of a likelihood's index: the bit is coded evenly. */
    private static final int EVENLY = -1;

    private final Reference reference = new Reference();
    /** Has one slot more than there can be reads: the one behind the last read is for the read under way. */
    private final ReadRow finished = new ReadRow(MAX_READS + 1);
    private boolean underWay = false;
    private final Read[] sorted = new Read[MAX_READS];
    private ReadRow shelf = new ReadRow(BLOCK_READS);
    /** Takes the reads of a block until it is known to be sound, so that the shelf stays if it is not. */
    private ReadRow spare = new ReadRow(BLOCK_READS);
    private final Archive archive = new Archive();
    private final Encoder encoder = new Encoder();
    private final Decoder decoder = new Decoder();

    public SlicedReads() {
        // No slot is ever null, whatever is packed.
        for (int i = 0; i < MAX_READS; i++) {
            sorted[i] = finished.items[i];
        }
    }

    public int refer(int w, int n) throws IllegalArgumentException, IllegalStateException, UnsupportedOperationException {
        if (n < 1 || n > MAX_REFERRED) {
            throw new IllegalArgumentException("n is not 1 .. 16");
        }
        if (finished.count > 0 || underWay) {
            throw new IllegalStateException("there are reads, or one is under way");
        }
        if (reference.count + n > MAX_REFERENCE) {
            throw new UnsupportedOperationException("the reference would have more than 160 bases");
        }
        reference.append(w, n);
        return reference.count;
    }

    public void clear(boolean all) {
        finished.count = 0;
        underWay = false;
        if (all) {
            reference.count = 0;
            shelf.count = 0;
        }
    }

    public void start(int position) throws IndexOutOfBoundsException {
        if (position < 0 || position > reference.count) {
            throw new IndexOutOfBoundsException("no such position in the reference");
        }
        finished.items[finished.count].begin(position);
        underWay = true;
    }

    public void edit(int kind, int number) throws IllegalStateException, IllegalArgumentException, UnsupportedOperationException {
        if (!underWay) {
            throw new IllegalStateException("no read is under way");
        }
        Read read = finished.items[finished.count];
        if (!read.fits(reference, kind, number)) {
            throw new IllegalArgumentException("no such edit at this place of the reference");
        }
        if (!read.hasRoom(kind, number)) {
            throw new UnsupportedOperationException("the read would have more than 20 bases or 12 edits");
        }
        read.add(reference, kind, number);
    }

    public int finish() throws IllegalStateException, UnsupportedOperationException {
        if (!underWay || finished.items[finished.count].baseCount == 0) {
            throw new IllegalStateException("no read with bases is under way");
        }
        if (finished.count >= MAX_READS) {
            throw new UnsupportedOperationException("there are 24 reads");
        }
        underWay = false;
        finished.count++;
        return finished.count - 1;
    }

    public int reads() {
        return finished.count;
    }

    public int about(int read, int what, boolean shelf) throws IndexOutOfBoundsException, IllegalArgumentException {
        ReadRow row = shelf ? this.shelf : finished;
        if (!row.has(read)) {
            throw new IndexOutOfBoundsException("no such read");
        }
        switch (what) {
            case 0: return row.items[read].position;
            case 1: return row.items[read].baseCount;
            case 2: return row.items[read].editCount;
            case 3: return row.items[read].passed;
            default: throw new IllegalArgumentException("what is not 0 .. 3");
        }
    }

    public int base(int read, int k, boolean shelf) throws IndexOutOfBoundsException {
        ReadRow row = shelf ? this.shelf : finished;
        if (!row.has(read)) {
            throw new IndexOutOfBoundsException("no such read");
        }
        if (k < 0 || k >= row.items[read].baseCount) {
            throw new IndexOutOfBoundsException("no such base");
        }
        return row.items[read].bases[k];
    }

    public int pack() {
        sortByPosition();
        archive.count = 0;
        for (int from = 0; from < finished.count; from += BLOCK_READS) {
            encoder.writeBlock(reference, sorted, from, Math.min(BLOCK_READS, finished.count - from));
            archive.append(encoder.block, encoder.length);
        }
        return archive.count;
    }

    public int blocks() {
        return archive.countBegins();
    }

    public int size() {
        return archive.count;
    }

    public int at(int k) throws IndexOutOfBoundsException {
        if (!archive.has(k)) {
            throw new IndexOutOfBoundsException("no such byte in the archive");
        }
        return archive.bytes[k];
    }

    public void corrupt(int k, int b) throws IndexOutOfBoundsException, IllegalArgumentException {
        if (!archive.has(k)) {
            throw new IndexOutOfBoundsException("no such byte in the archive");
        }
        if (b < 0 || b > MAX_BYTE) {
            throw new IllegalArgumentException("b is not 0 .. 255");
        }
        archive.bytes[k] = b;
    }

    public int unpack(int block) throws IndexOutOfBoundsException, IllegalArgumentException {
        int begin = archive.beginOf(block);
        if (begin == NONE) {
            throw new IndexOutOfBoundsException("no such block");
        }
        if (!readsSoundly(begin)) {
            throw new IllegalArgumentException("the block is not sound");
        }
        ReadRow old = shelf;
        shelf = spare;
        spare = old;
        return shelf.count;
    }

    public int depth(int p) throws IndexOutOfBoundsException, IllegalArgumentException {
        if (p < 0 || p >= reference.count) {
            throw new IndexOutOfBoundsException("no such base of the reference");
        }
        int found = 0;
        for (int begin = 0; begin < archive.count; begin += FRAME_BYTES + archive.rowLength(begin)) {
            if (archive.has(begin + 1) && archive.bytes[begin + 1] > p) {
                break;
            }
            if (!readsSoundly(begin)) {
                throw new IllegalArgumentException("a block is not sound");
            }
            found += spare.countOver(p);
        }
        return found;
    }

    /** Stable, so that reads at the same position stay in the order of their numbers. */
    private void sortByPosition() {
        for (int i = 0; i < finished.count; i++) {
            Read read = finished.items[i];
            int slot = i;
            for (; slot > 0 && sorted[slot - 1].position > read.position; slot--) {
                sorted[slot] = sorted[slot - 1];
            }
            sorted[slot] = read;
        }
    }

    /**
     * Whether the block that begins there is sound; if so, its reads are in the spare row.
     * A row of bytes has one reading at most, so packing that reading again tells whether packing made it.
     */
    private boolean readsSoundly(int begin) {
        if (!archive.hasWholeBlock(begin)) {
            return false;
        }
        int count = archive.bytes[begin];
        if (count < 1 || count > BLOCK_READS || !decoder.open(archive, begin)) {
            return false;
        }
        int position = archive.bytes[begin + 1];
        for (int i = 0; i < count; i++) {
            Read read = spare.items[i];
            if (!decoder.readRead(reference, read, position)) {
                return false;
            }
            position = read.position;
        }
        spare.count = count;
        encoder.writeBlock(reference, spare.items, 0, count);
        return archive.holds(begin, encoder.block, encoder.length);
    }

    private static final class Reference {
        final int[] bases = new int[MAX_REFERENCE];
        int count = 0;

        void append(int w, int n) {
            for (int i = 0; i < n && count < MAX_REFERENCE; i++) {
                bases[count] = (w >>> (2 * i)) & 3;
                count++;
            }
        }
    }

    private static final class Read {
        final int[] kinds = new int[MAX_EDITS];
        final int[] numbers = new int[MAX_EDITS];
        final int[] bases = new int[MAX_BASES];
        int position = 0;
        int editCount = 0;
        int baseCount = 0;
        int passed = 0;

        void begin(int place) {
            position = place;
            editCount = 0;
            baseCount = 0;
            passed = 0;
        }

        /** The place in the reference that the next edit works on. */
        int place() {
            return position + passed;
        }

        boolean fits(Reference reference, int kind, int number) {
            switch (kind) {
                case MATCH:
                case REMOVE:
                    return number >= 1 && number <= reference.count - place();
                case CHANGE:
                    return isBase(number) && place() < reference.count && reference.bases[place()] != number;
                case INSERT:
                    return isBase(number);
                default:
                    return false;
            }
        }

        private static boolean isBase(int number) {
            return number >= 0 && number < BASES;
        }

        boolean lengthensLast(int kind) {
            return (kind == MATCH || kind == REMOVE) && editCount > 0 && kinds[editCount - 1] == kind;
        }

        /** Asked only of an edit that fits, whose number is therefore small. */
        boolean hasRoom(int kind, int number) {
            int newBases = kind == MATCH ? number : kind == REMOVE ? 0 : 1;
            int newEdits = lengthensLast(kind) ? 0 : 1;
            return baseCount + newBases <= MAX_BASES && editCount + newEdits <= MAX_EDITS;
        }

        /** The edit fits, and there is room for it. */
        void add(Reference reference, int kind, int number) {
            addBases(reference, kind, number);
            if (kind == MATCH || kind == REMOVE) {
                passed += number;
            } else if (kind == CHANGE) {
                passed++;
            }
            if (lengthensLast(kind)) {
                numbers[editCount - 1] += number;
            } else {
                kinds[editCount] = kind;
                numbers[editCount] = number;
                editCount++;
            }
        }

        private void addBases(Reference reference, int kind, int number) {
            if (kind == MATCH) {
                System.arraycopy(reference.bases, place(), bases, baseCount, number);
                baseCount += number;
            } else if (kind != REMOVE) {
                bases[baseCount] = number;
                baseCount++;
            }
        }
    }

    private static final class ReadRow {
        final Read[] items;
        int count = 0;

        ReadRow(int slots) {
            items = new Read[slots];
            for (int i = 0; i < slots; i++) {
                items[i] = new Read();
            }
        }

        boolean has(int read) {
            return read >= 0 && read < count;
        }

        int countOver(int p) {
            int found = 0;
            for (int i = 0; i < count; i++) {
                if (items[i].position <= p && p < items[i].place()) {
                    found++;
                }
            }
            return found;
        }
    }

    private static final class Archive {
        final int[] bytes = new int[MAX_BLOCKS * MAX_BLOCK_BYTES];
        int count = 0;

        boolean has(int k) {
            return k >= 0 && k < count;
        }

        /** What the third byte of a block says; 0 when it is not there, as then no block follows anyway. */
        int rowLength(int begin) {
            return has(begin + 2) ? bytes[begin + 2] : 0;
        }

        boolean hasWholeBlock(int begin) {
            return has(begin) && begin + FRAME_BYTES + rowLength(begin) <= count;
        }

        int countBegins() {
            int found = 0;
            for (int begin = 0; begin < count; begin += FRAME_BYTES + rowLength(begin)) {
                found++;
            }
            return found;
        }

        int beginOf(int block) {
            int begin = 0;
            for (int i = 0; i < block && begin < count; i++) {
                begin += FRAME_BYTES + rowLength(begin);
            }
            return block >= 0 && begin < count ? begin : NONE;
        }

        void append(int[] block, int length) {
            for (int i = 0; i < length && count < bytes.length; i++) {
                bytes[count] = block[i];
                count++;
            }
        }

        /** Whether the whole block that begins there is just this one. */
        boolean holds(int begin, int[] block, int length) {
            if (FRAME_BYTES + rowLength(begin) != length) {
                return false;
            }
            for (int i = 0; i < length; i++) {
                if (bytes[begin + i] != block[i]) {
                    return false;
                }
            }
            return true;
        }
    }

    /**
     * What writing and reading have in common: which decisions are coded, in which order and by which likelihoods.
     * Each method takes what is to be coded and answers what was coded. Writing answers what it took; reading
     * cares for nothing that it takes, and answers what the bytes say.
     */
    private abstract static class Coder {
        private final int[] likelihoods = new int[LIKELIHOODS];
        long range = FULL_RANGE;

        abstract int choose(long bound, int bit);

        abstract void shiftByte();

        void renew() {
            Arrays.fill(likelihoods, EVEN);
            range = FULL_RANGE;
        }

        int bit(int which, int bit) {
            int p = which == EVENLY ? EVEN : likelihoods[which];
            long bound = range / CERTAIN * p;
            int coded = choose(bound, bit);
            range = coded == 0 ? bound : range - bound;
            if (which != EVENLY) {
                likelihoods[which] = coded == 0 ? p + (CERTAIN - p) / SLOWNESS : p - p / SLOWNESS;
            }
            for (int i = 0; i < LOW_BYTES && range < TOP_BYTE; i++) {
                shiftByte();
                range *= 256;
            }
            return coded;
        }

        int number(int group, int v) {
            int k = 0;
            for (int i = 0; i < GROUP_SIZE; i++) {
                if (bit(group + i, v + 1 >= 2 << i ? 1 : 0) == 0) {
                    break;
                }
                k++;
            }
            int coded = 1;
            for (int i = k - 1; i >= 0; i--) {
                coded = 2 * coded + bit(EVENLY, (v + 1 >> i) & 1);
            }
            return coded - 1;
        }

        int kind(int before, int kind) {
            int four = KINDS + KIND_SIZE * before;
            if (bit(four, kind == MATCH ? 0 : 1) == 0) {
                return MATCH;
            }
            if (bit(four + 1, kind == END ? 0 : 1) == 0) {
                return END;
            }
            if (bit(four + 2, kind == CHANGE ? 0 : 1) == 0) {
                return CHANGE;
            }
            return bit(four + 3, kind == INSERT ? 0 : 1) == 0 ? INSERT : REMOVE;
        }

        /** What stands behind a kind; for CHANGE the place is one of the reference. */
        int editNumber(Reference reference, int place, int kind, int number) {
            switch (kind) {
                case MATCH: return number(MATCHES, number - 1) + 1;
                case REMOVE: return number(REMOVALS, number - 1) + 1;
                case CHANGE: return change(reference.bases[place], number);
                default: return insert(number);
            }
        }

        private int change(int a, int b) {
            int c = b < a ? b : b - 1;
            int two = CHANGES + CHANGE_SIZE * a;
            int coded = bit(two, c == 0 ? 0 : 1);
            if (coded == 1) {
                coded += bit(two + 1, c == 1 ? 0 : 1);
            }
            return coded < a ? coded : coded + 1;
        }

        private int insert(int b) {
            int high = bit(INSERT_HIGH, b / 2);
            return 2 * high + bit(INSERT_LOW + high, b % 2);
        }
    }

    private static final class Encoder extends Coder {
        final int[] block = new int[MAX_BLOCK_BYTES];
        int length = 0;
        private long low = 0;

        void writeBlock(Reference reference, Read[] row, int from, int count) {
            renew();
            low = 0;
            length = HEAD_BYTES;
            int position = row[from].position;
            block[0] = count;
            block[1] = position;
            for (int i = from; i < from + count; i++) {
                writeRead(reference, row[i], row[i].position - position);
                position = row[i].position;
            }
            closeRow();
            addCheck();
        }

        private void writeRead(Reference reference, Read read, int distance) {
            number(DISTANCES, distance);
            int before = BEFORE_FIRST;
            int place = read.position;
            for (int i = 0; i < read.editCount; i++) {
                int kind = read.kinds[i];
                int number = read.numbers[i];
                kind(before, kind);
                editNumber(reference, place, kind, number);
                if (kind != INSERT) {
                    place += kind == CHANGE ? 1 : number;
                }
                before = kind;
            }
            kind(before, END);
        }

        private void closeRow() {
            for (int i = 0; i < LOW_BYTES; i++) {
                shiftByte();
            }
            while (length > HEAD_BYTES && block[length - 1] == 0) {
                length--;
            }
            block[2] = length - HEAD_BYTES;
        }

        private void addCheck() {
            int c = CHECK_START;
            for (int i = 0; i < length; i++) {
                c = (CHECK_FACTOR * c + block[i]) % CHECK_MODULUS;
            }
            if (length + CHECK_BYTES <= MAX_BLOCK_BYTES) {
                block[length] = c / 256;
                block[length + 1] = c % 256;
                length += CHECK_BYTES;
            }
        }

        int choose(long bound, int bit) {
            if (bit == 1) {
                low += bound;
            }
            if (low >= LOW_END) {
                low -= LOW_END;
                int last = length - 1;
                for (; last >= HEAD_BYTES && block[last] == MAX_BYTE; last--) {
                    block[last] = 0;
                }
                if (last >= HEAD_BYTES) {
                    block[last]++;
                }
            }
            return bit;
        }

        /** No reads fill the row: even the longest edits of three reads take far less than 255 bytes. */
        void shiftByte() {
            if (length < MAX_BLOCK_BYTES) {
                block[length] = (int) (low / TOP_BYTE);
                length++;
            }
            low = low % TOP_BYTE * 256;
        }
    }

    private static final class Decoder extends Coder {
        private final int[] row = new int[MAX_BYTE];
        private int rowLength = 0;
        private int next = 0;
        /** How far the row's bytes, as a number, are above what LOW was when they were written. */
        private long above = 0;

        /** Takes the row of the whole block that begins there; whether it can have been written at all. */
        boolean open(Archive archive, int begin) {
            renew();
            rowLength = archive.rowLength(begin);
            System.arraycopy(archive.bytes, begin + HEAD_BYTES, row, 0, rowLength);
            next = 0;
            above = 0;
            for (int i = 0; i < LOW_BYTES; i++) {
                shiftByte();
            }
            return above < range;
        }

        boolean readRead(Reference reference, Read read, int positionBefore) {
            int position = positionBefore + number(DISTANCES, 0);
            if (position > reference.count) {
                return false;
            }
            read.begin(position);
            int before = BEFORE_FIRST;
            for (int i = 0; i <= MAX_EDITS; i++) {
                int kind = kind(before, END);
                if (kind == END) {
                    return read.baseCount > 0;
                }
                if (!readEdit(reference, read, kind)) {
                    return false;
                }
                before = kind;
            }
            return false;
        }

        private boolean readEdit(Reference reference, Read read, int kind) {
            if (read.lengthensLast(kind) || kind == CHANGE && read.place() >= reference.count) {
                return false;
            }
            int number = editNumber(reference, read.place(), kind, 1);
            if (!read.fits(reference, kind, number) || !read.hasRoom(kind, number)) {
                return false;
            }
            read.add(reference, kind, number);
            return true;
        }

        int choose(long bound, int bit) {
            if (above < bound) {
                return 0;
            }
            above -= bound;
            return 1;
        }

        /** Bytes 0 at the row's end were left out, so behind it there are bytes 0. */
        void shiftByte() {
            int b = next < rowLength ? row[next] : 0;
            next++;
            above = above * 256 + b;
        }
    }
}
