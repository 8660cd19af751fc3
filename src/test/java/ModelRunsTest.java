/** All promises: long runs of thrown calls, each compared with the model's answer, and all state at the end. */
public final class ModelRunsTest {
    private static final int RUNS = 3000;
    /** An object promises nothing behind its 512th call; the last ones are for looking at what has become of it. */
    private static final int MAX_CALLS = 512;
    private static final int MIXED_CALLS = 320;
    private static final Due due = new Due();

    private final int run;
    private final Dice dice;
    private final SlicedReads x = new SlicedReads();
    private final Model model = new Model();
    private int calls = 0;
    /** What corrupt may mend again: the archive as it was packed last. */
    private int[] packed = new int[0];

    private ModelRunsTest(int run) {
        this.run = run;
        this.dice = new Dice(run);
    }

    public static void main(String[] args) {
        for (int run = 0; run < RUNS; run++) {
            ModelRunsTest test = new ModelRunsTest(run);
            test.refer();
            while (test.calls < MIXED_CALLS) {
                test.call();
            }
            test.compareState();
        }
        due.end("ModelRunsTest");
    }

    private void same(String call, Due.Call program, Due.Call plain) {
        if (calls < MAX_CALLS) {
            calls++;
            due.alike("run " + run + ": " + call, program, plain);
        }
    }

    private void refer() {
        int times = run % 11;
        for (int i = 0; i < times; i++) {
            int w = run % 3 == 0 ? 0 : dice.bits();
            same("refer " + w, () -> x.refer(w, 16), () -> model.refer(w, 16));
        }
    }

    private void call() {
        switch (dice.below(12)) {
            case 0, 1, 2, 3, 4 -> wholeRead();
            case 5 -> pack();
            case 6, 7 -> corruptOrMend();
            case 8, 9 -> unpackOrDepth();
            case 10 -> look();
            default -> rare();
        }
    }

    private void wholeRead() {
        int position = dice.oneIn(20) ? dice.below(170) - 4 : dice.below(model.reads() % 2 == 0 ? 12 : 160);
        same("start " + position, () -> Calls.start(x, position), () -> model.start(position));
        int edits = dice.below(dice.oneIn(4) ? 16 : 6);
        for (int i = 0; i < edits; i++) {
            edit();
        }
        if (!dice.oneIn(10)) {
            same("finish", x::finish, model::finish);
        }
    }

    private void edit() {
        int kind = dice.oneIn(40) ? dice.below(8) - 2 : dice.below(4);
        int longest = dice.oneIn(5) ? 30 : 4;
        int number = dice.oneIn(40) ? dice.bits() : kind % 3 == 0 ? dice.below(longest) + 1 : dice.below(4);
        same("edit " + kind + " " + number, () -> Calls.edit(x, kind, number), () -> model.edit(kind, number));
    }

    private void pack() {
        same("pack", x::pack, model::pack);
        packed = new int[model.size()];
        for (int k = 0; k < packed.length; k++) {
            packed[k] = model.at(k);
        }
    }

    private void corruptOrMend() {
        if (packed.length > 0 && dice.oneIn(2)) {
            for (int k = 0; k < packed.length; k++) {
                if (model.at(k) != packed[k]) {
                    corrupt(k, packed[k]);
                }
            }
            return;
        }
        int k = dice.oneIn(20) ? dice.below(400) - 3 : dice.below(Math.max(1, packed.length));
        corrupt(k, dice.oneIn(20) ? dice.below(400) - 100 : dice.below(dice.oneIn(2) ? 256 : 12));
    }

    private void corrupt(int k, int b) {
        same("corrupt " + k + " " + b, () -> Calls.corrupt(x, k, b), () -> model.corrupt(k, b));
    }

    private void unpackOrDepth() {
        int block = dice.below(dice.oneIn(4) ? 12 : 4) - (dice.oneIn(20) ? 2 : 0);
        same("unpack " + block, () -> x.unpack(block), () -> model.unpack(block));
        int p = dice.below(dice.oneIn(4) ? 170 : 20) - (dice.oneIn(20) ? 2 : 0);
        same("depth " + p, () -> x.depth(p), () -> model.depth(p));
    }

    private void look() {
        int read = dice.below(6) - 1;
        int what = dice.below(6) - 1;
        int k = dice.below(22) - 1;
        boolean shelf = dice.oneIn(2);
        same("about " + read + " " + what, () -> x.about(read, what, shelf), () -> model.about(read, what, shelf));
        same("base " + read + " " + k, () -> x.base(read, k, shelf), () -> model.base(read, k, shelf));
        same("at " + k, () -> x.at(k), () -> model.at(k));
        same("blocks", x::blocks, model::blocks);
        same("size", x::size, model::size);
        same("reads", x::reads, model::reads);
    }

    private void rare() {
        if (dice.oneIn(4)) {
            boolean all = dice.oneIn(2);
            same("clear " + all, () -> Calls.clear(x, all), () -> model.clear(all));
        }
        int w = dice.bits();
        int n = dice.below(20) - 1;
        same("refer " + w + " " + n, () -> x.refer(w, n), () -> model.refer(w, n));
        same("finish", x::finish, model::finish);
        edit();
    }

    private void compareState() {
        same("finish", x::finish, model::finish);
        switch (dice.below(3)) {
            case 0 -> compareArchive();
            case 1 -> compareReads();
            default -> compareBlocks();
        }
        compareArchive();
        compareBlocks();
        compareReads();
    }

    private void compareArchive() {
        for (int k = -1; k <= model.size(); k++) {
            int at = k;
            same("at " + k, () -> x.at(at), () -> model.at(at));
        }
    }

    private void compareReads() {
        for (int read = -1; read <= model.reads(); read++) {
            compareRead(read, read < 3);
            compareRead(read, false);
        }
    }

    private void compareBlocks() {
        for (int p = -1; p <= 160; p += 7) {
            int at = p;
            same("depth " + p, () -> x.depth(at), () -> model.depth(at));
        }
        for (int block = model.blocks(); block >= -1; block--) {
            int at = block;
            same("unpack " + block, () -> x.unpack(at), () -> model.unpack(at));
            compareRead(dice.below(3), true);
        }
    }

    private void compareRead(int read, boolean shelf) {
        for (int what = 0; what < 4; what++) {
            int at = what;
            same("about " + read + " " + what, () -> x.about(read, at, shelf), () -> model.about(read, at, shelf));
        }
        for (int k = -1; k < 21; k++) {
            int at = k;
            same("base " + read + " " + k, () -> x.base(read, at, shelf), () -> model.base(read, at, shelf));
        }
    }
}
