/**
 * Objects that all have the same calls behind them. Each answer is asked of an object of its own; where a call
 * is refused, all that can be seen of its object afterwards is compared with a twin that never got the call.
 */
final class Twins {
    /** The calls that each object has behind it. */
    interface Past {
        void on(Counted x);
    }

    interface Call {
        int on(Counted x);
    }

    private static final int[] DEPTHS = {0, 1, 4, 7, 8, 19, 159};

    private final Due due;
    private final String name;
    private final Past past;

    Twins(Due due, String name, Past past) {
        this.due = due;
        this.name = name;
        this.past = past;
    }

    Counted one() {
        Counted x = new Counted();
        past.on(x);
        return x;
    }

    void answers(String call, int want, Call asked) {
        Counted x = one();
        due.answers(call + ", " + name, want, () -> asked.on(x));
    }

    void refuses(String call, Class<? extends RuntimeException> want, Call asked) {
        Counted tried = one();
        due.refuses(call + ", " + name, want, () -> asked.on(tried));
        compare(" behind a refused " + call + ", " + name, tried, one());
    }

    /** A call that is answered, but changes nothing. */
    void looks(String call, int want, Call asked) {
        Counted tried = one();
        due.answers(call + ", " + name, want, () -> asked.on(tried));
        compare(" behind " + call + ", " + name, tried, one());
    }

    private void compare(String when, Counted tried, Counted plain) {
        look(when, tried, plain);
        underWay(when, tried, plain);
        unpacked(when, tried, plain);
        endOfReference(when, tried, plain);
        packed(when, tried, plain);
    }

    private void same(String call, Counted tried, Counted plain, Call asked) {
        due.alike(call, () -> asked.on(tried), () -> asked.on(plain));
    }

    /** Only calls that change nothing. */
    private void look(String when, Counted tried, Counted plain) {
        same("reads()" + when, tried, plain, Counted::reads);
        archive(when, tried, plain);
        int reads = plain.reads();
        for (int read = 0; read <= reads; read++) {
            // Of many reads, the first and the last ones.
            if (read < 2 || read > reads - 3) {
                row(when, tried, plain, read, false);
            }
        }
        for (int read = 0; read <= 3; read++) {
            row(when, tried, plain, read, true);
        }
        for (int p : DEPTHS) {
            same("depth(" + p + ")" + when, tried, plain, x -> x.depth(p));
        }
    }

    private void archive(String when, Counted tried, Counted plain) {
        same("size()" + when, tried, plain, Counted::size);
        same("blocks()" + when, tried, plain, Counted::blocks);
        int size = plain.size();
        for (int k = 0; k <= size; k++) {
            int at = k;
            same("at(" + k + ")" + when, tried, plain, x -> x.at(at));
        }
    }

    private void row(String when, Counted tried, Counted plain, int read, boolean shelf) {
        for (int what = 0; what < 4; what++) {
            int at = what;
            same("about(" + read + ", " + what + ", " + shelf + ")" + when, tried, plain, x -> x.about(read, at, shelf));
        }
        int bases = bases(plain, read, shelf);
        for (int k = 0; k <= bases; k++) {
            int at = k;
            same("base(" + read + ", " + k + ", " + shelf + ")" + when, tried, plain, x -> x.base(read, at, shelf));
        }
    }

    /** How many bases a read has; 0 when there is no such read. */
    private static int bases(Counted x, int read, boolean shelf) {
        try {
            return x.about(read, 1, shelf);
        } catch (IndexOutOfBoundsException e) {
            return 0;
        }
    }

    private void underWay(String when, Counted tried, Counted plain) {
        same("refer(27, 4)" + when, tried, plain, x -> x.refer(27, 4));
        same("finish()" + when, tried, plain, Counted::finish);
        same("edit(2, 3)" + when, tried, plain, x -> x.edit(Calls.INSERT, 3));
        same("edit(0, 1)" + when, tried, plain, x -> x.edit(Calls.MATCH, 1));
        same("finish() again" + when, tried, plain, Counted::finish);
        row(when, tried, plain, plain.reads() - 1, false);
    }

    private void unpacked(String when, Counted tried, Counted plain) {
        for (int block = 1; block >= 0; block--) {
            int at = block;
            same("unpack(" + block + ")" + when, tried, plain, x -> x.unpack(at));
            row(when, tried, plain, block, true);
        }
    }

    private void endOfReference(String when, Counted tried, Counted plain) {
        tried.clear(false);
        plain.clear(false);
        same("refer(2, 1)" + when, tried, plain, x -> x.refer(2, 1));
        int count = length(plain);
        same("start at the reference's end" + when, tried, plain, x -> x.start(count));
        same("start behind the reference's end" + when, tried, plain, x -> x.start(count + 1));
        int bases = Math.min(20, count);
        same("the reference's last bases" + when, tried, plain,
                x -> x.read(count - bases, Calls.MATCH, Math.max(1, bases)));
        row(when, tried, plain, 0, false);
    }

    /** How many bases the reference has, told by where a read can start. */
    private static int length(Counted x) {
        int below = 0;
        int above = 161;
        while (above - below > 1) {
            int middle = (below + above) / 2;
            try {
                x.start(middle);
                below = middle;
            } catch (IndexOutOfBoundsException e) {
                above = middle;
            }
        }
        return below;
    }

    private void packed(String when, Counted tried, Counted plain) {
        same("pack()" + when, tried, plain, Counted::pack);
        archive(" and pack()" + when, tried, plain);
    }
}
