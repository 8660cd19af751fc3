import java.util.Arrays;

/**
 * The coder as 'Terms' says it, word by word: a row of bytes, LOW, RANGE and likelihoods. It can only write.
 * A copy is taken of it where several ways go on from one decision.
 */
final class WrittenRow {
    private static final int EVENLY = -1;
    private static final int DISTANCE = 0;
    private static final int MATCH = 9;
    private static final int REMOVE = 18;
    private static final int KIND = 27;
    private static final int CHANGE = KIND + 4 * 5;
    private static final int INSERT = CHANGE + 2 * 4;
    private static final int LIKELIHOODS = INSERT + 3;

    private int[] row = new int[0];
    private long low = 0;
    private long range = (1L << 32) - 1;
    private final int[] likelihoods;

    WrittenRow() {
        likelihoods = new int[LIKELIHOODS];
        Arrays.fill(likelihoods, 1024);
    }

    private WrittenRow(WrittenRow other) {
        row = other.row.clone();
        low = other.low;
        range = other.range;
        likelihoods = other.likelihoods.clone();
    }

    WrittenRow copy() {
        return new WrittenRow(this);
    }

    private void code(int which, int bit) {
        int p = which == EVENLY ? 1024 : likelihoods[which];
        long bound = range / 2048 * p;
        if (bit == 0) {
            range = bound;
            p += (2048 - p) / 16;
        } else {
            low += bound;
            range -= bound;
            p -= p / 16;
        }
        if (which != EVENLY) {
            likelihoods[which] = p;
        }
        if (low >= 1L << 32) {
            low -= 1L << 32;
            grow(row.length - 1);
        }
        while (range < 1L << 24) {
            push((int) (low / (1L << 24)));
            low = low % (1L << 24) * 256;
            range *= 256;
        }
    }

    private void grow(int at) {
        row[at]++;
        if (row[at] == 256) {
            row[at] = 0;
            grow(at - 1);
        }
    }

    private void push(int b) {
        row = Arrays.copyOf(row, row.length + 1);
        row[row.length - 1] = b;
    }

    private void number(int group, int v) {
        int k = 0;
        while (1 << (k + 1) <= v + 1) {
            k++;
        }
        for (int i = 0; i <= Math.min(k, 8); i++) {
            code(group + i, i < k ? 1 : 0);
        }
        for (int i = k - 1; i >= 0; i--) {
            code(EVENLY, (v + 1) / (1 << i) % 2);
        }
    }

    void distance(int v) {
        number(DISTANCE, v);
    }

    /** END behind an edit of this kind, or behind none (-1). */
    void end(int before) {
        int four = KIND + 4 * (before + 1);
        code(four, 1);
        code(four + 1, 0);
    }

    /** An edit behind one of this kind, or behind none (-1); over: the base that a CHANGE passes over. */
    void edit(int before, int kind, int number, int over) {
        int four = KIND + 4 * (before + 1);
        switch (kind) {
            case Calls.MATCH -> {
                code(four, 0);
                number(MATCH, number - 1);
            }
            case Calls.CHANGE -> {
                ones(four, 2);
                code(four + 2, 0);
                change(over, number < over ? number : number - 1);
            }
            case Calls.INSERT -> {
                ones(four, 3);
                code(four + 3, 0);
                code(INSERT, number / 2);
                code(INSERT + 1 + number / 2, number % 2);
            }
            default -> {
                ones(four, 4);
                number(REMOVE, number - 1);
            }
        }
    }

    private void ones(int from, int count) {
        for (int i = 0; i < count; i++) {
            code(from + i, 1);
        }
    }

    private void change(int over, int c) {
        code(CHANGE + 2 * over, c == 0 ? 0 : 1);
        if (c > 0) {
            code(CHANGE + 2 * over + 1, c == 1 ? 0 : 1);
        }
    }

    /**
     * Whether a row of at most so many bytes can still come about: whatever is coded from here on, the row as a number
     * stays between LOW and LOW + RANGE, so one with only bytes 0 behind the first so many must lie there.
     */
    boolean canBeShort(int bytes) {
        long unit = 1L << 8 * Math.max(0, 4 - Math.max(0, bytes - row.length));
        boolean zeros = true;
        boolean full = true;
        for (int i = bytes; i < row.length; i++) {
            zeros &= row[i] == 0;
            full &= row[i] == 255;
        }
        return zeros && low % unit == 0 || full && low % unit + range > unit;
    }

    /** The row at the end of a block. */
    int[] ended() {
        int[] all = Arrays.copyOf(row, row.length + 4);
        for (int i = 0; i < 4; i++) {
            all[row.length + i] = (int) (low >> 8 * (3 - i) & 255);
        }
        int length = all.length;
        while (length > 0 && all[length - 1] == 0) {
            length--;
        }
        return Arrays.copyOf(all, length);
    }
}
