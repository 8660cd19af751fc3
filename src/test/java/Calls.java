/** Short ways to make runs of calls. */
final class Calls {
    static final int MATCH = 0;
    static final int CHANGE = 1;
    static final int INSERT = 2;
    static final int REMOVE = 3;

    private Calls() {
    }

    static int start(SlicedReads x, int position) {
        x.start(position);
        return 0;
    }

    static int edit(SlicedReads x, int kind, int number) {
        x.edit(kind, number);
        return 0;
    }

    static int clear(SlicedReads x, boolean all) {
        x.clear(all);
        return 0;
    }

    static int corrupt(SlicedReads x, int k, int b) {
        x.corrupt(k, b);
        return 0;
    }

    /** A whole read: its position, then kind and number of each edit. */
    static int read(SlicedReads x, int position, int... edits) {
        x.start(position);
        for (int i = 0; i + 1 < edits.length; i += 2) {
            x.edit(edits[i], edits[i + 1]);
        }
        return x.finish();
    }

    /** Writes bytes over the archive, from byte 0 on. */
    static void overwrite(SlicedReads x, int[] bytes) {
        for (int k = 0; k < bytes.length; k++) {
            x.corrupt(k, bytes[k]);
        }
    }

    static int[] archive(SlicedReads x) {
        int[] bytes = new int[x.size()];
        for (int k = 0; k < bytes.length; k++) {
            bytes[k] = x.at(k);
        }
        return bytes;
    }
}
