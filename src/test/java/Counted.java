/** An object whose calls are counted: nothing is promised behind the 512th, so no test may look there. */
final class Counted {
    static final int MAX_CALLS = 512;

    private final SlicedReads x = new SlicedReads();
    private int calls = 0;

    int calls() {
        return calls;
    }

    private SlicedReads next() {
        calls++;
        if (calls > MAX_CALLS) {
            throw new AssertionError("a test makes call " + calls + " of one object");
        }
        return x;
    }

    int refer(int w, int n) {
        return next().refer(w, n);
    }

    int clear(boolean all) {
        next().clear(all);
        return 0;
    }

    int start(int position) {
        next().start(position);
        return 0;
    }

    int edit(int kind, int number) {
        next().edit(kind, number);
        return 0;
    }

    int finish() {
        return next().finish();
    }

    int reads() {
        return next().reads();
    }

    int about(int read, int what, boolean shelf) {
        return next().about(read, what, shelf);
    }

    int base(int read, int k, boolean shelf) {
        return next().base(read, k, shelf);
    }

    int pack() {
        return next().pack();
    }

    int blocks() {
        return next().blocks();
    }

    int size() {
        return next().size();
    }

    int at(int k) {
        return next().at(k);
    }

    int corrupt(int k, int b) {
        next().corrupt(k, b);
        return 0;
    }

    int unpack(int block) {
        return next().unpack(block);
    }

    int depth(int p) {
        return next().depth(p);
    }

    /** A reference of so many bases, 0 1 2 3 0 1 2 3 and so on. */
    Counted referring(int bases) {
        for (int left = bases; left > 0; left -= 16) {
            refer(0xE4E4E4E4, Math.min(16, left));
        }
        return this;
    }

    /** A read under way: its position, then kind and number of each edit. */
    int begin(int position, int... edits) {
        start(position);
        for (int i = 0; i + 1 < edits.length; i += 2) {
            edit(edits[i], edits[i + 1]);
        }
        return 0;
    }

    int read(int position, int... edits) {
        begin(position, edits);
        return finish();
    }

    int enter(ModelRead read) {
        start(read.position);
        for (int[] edit : read.edits) {
            edit(edit[0], edit[1]);
        }
        return finish();
    }

    /** Writes bytes over the archive, from one on. */
    int overwrite(int from, int[] bytes) {
        for (int i = 0; i < bytes.length; i++) {
            corrupt(from + i, bytes[i]);
        }
        return 0;
    }

    int[] archive() {
        int[] bytes = new int[size()];
        for (int k = 0; k < bytes.length; k++) {
            bytes[k] = at(k);
        }
        return bytes;
    }
}
