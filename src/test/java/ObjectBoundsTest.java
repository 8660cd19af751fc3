/** The bounds of 'What it is' (an object's 512 calls) and of promise 1, a new object. */
public final class ObjectBoundsTest {
    private static final Due due = new Due();
    private static final Twins NEW = new Twins(due, "of a new object", x -> { });

    public static void main(String[] args) {
        aNewObjectHasNothing();
        aNewObjectRefusesWhatNeedsSomething();
        aNewObjectIsNewBesideAFullOne();
        the511thAnd512thCallAnswerAsDue();
        refusedCallsAreCalls();
        lookingChangesNothing();
        laterCallsThrowNothingElse();
        due.end("ObjectBoundsTest");
    }

    /** "No reference, no reads, none under way, an empty archive and shelf." */
    private static void aNewObjectHasNothing() {
        NEW.answers("reads()", 0, Counted::reads);
        NEW.answers("blocks()", 0, Counted::blocks);
        NEW.answers("size()", 0, Counted::size);
        NEW.answers("pack()", 0, Counted::pack);
        NEW.answers("refer(0, 1)", 1, x -> x.refer(0, 1));
        NEW.answers("refer(0, 16)", 16, x -> x.refer(0, 16));
        NEW.answers("start(0)", 0, x -> x.start(0));
        NEW.answers("the first read's number", 0, x -> x.read(0, Calls.INSERT, 0));
        NEW.answers("clear(false), then reads()", 0, x -> x.clear(false) + x.reads());
        NEW.answers("clear(true), then reads()", 0, x -> x.clear(true) + x.reads());
        due.equal("NONE", SlicedReads.NONE, -1);
    }

    private static void aNewObjectRefusesWhatNeedsSomething() {
        NEW.refuses("start(1)", IndexOutOfBoundsException.class, x -> x.start(1));
        NEW.refuses("start(-1)", IndexOutOfBoundsException.class, x -> x.start(-1));
        NEW.refuses("edit(2, 0)", IllegalStateException.class, x -> x.edit(Calls.INSERT, 0));
        NEW.refuses("finish()", IllegalStateException.class, Counted::finish);
        for (boolean shelf : new boolean[] {false, true}) {
            NEW.refuses("about(0, 0, " + shelf + ")", IndexOutOfBoundsException.class, x -> x.about(0, 0, shelf));
            NEW.refuses("about(0, 4, " + shelf + ")", IndexOutOfBoundsException.class, x -> x.about(0, 4, shelf));
            NEW.refuses("base(0, 0, " + shelf + ")", IndexOutOfBoundsException.class, x -> x.base(0, 0, shelf));
        }
        NEW.refuses("at(0)", IndexOutOfBoundsException.class, x -> x.at(0));
        NEW.refuses("corrupt(0, 0)", IndexOutOfBoundsException.class, x -> x.corrupt(0, 0));
        NEW.refuses("unpack(0)", IndexOutOfBoundsException.class, x -> x.unpack(0));
        NEW.refuses("depth(0)", IndexOutOfBoundsException.class, x -> x.depth(0));
    }

    private static void aNewObjectIsNewBesideAFullOne() {
        Counted full = new Counted();
        fill(full);
        aNewObjectHasNothing();
        due.answers("reads() of the full one", 24, full::reads);
    }

    /** The longest reference, 24 reads, all packed, three of them on the shelf, and one under way. */
    private static void fill(Counted x) {
        x.referring(160);
        for (int i = 0; i < 24; i++) {
            x.read(140 - 5 * i, Calls.MATCH, 3, Calls.INSERT, i % 4, Calls.REMOVE, 1 + i % 9);
        }
        x.pack();
        x.unpack(7);
        x.begin(0, Calls.MATCH, 20);
    }

    /** "An object is used for at most 512 calls after it has been made": so the last of them still count. */
    private static void the511thAnd512thCallAnswerAsDue() {
        Twins.Call[] last = {
            Counted::reads, Counted::pack, Counted::blocks, Counted::size, Counted::finish,
            x -> x.refer(0, 1), x -> x.clear(true), x -> x.start(160), x -> x.edit(Calls.REMOVE, 140),
            x -> x.about(23, 3, false), x -> x.about(2, 1, true), x -> x.base(0, 3, true), x -> x.at(100),
            x -> x.corrupt(0, 0), x -> x.unpack(0), x -> x.unpack(7), x -> x.unpack(8), x -> x.depth(139),
        };
        for (int i = 0; i < last.length; i++) {
            Twins.Call asked = last[i];
            Counted early = new Counted();
            Counted late = new Counted();
            fill(early);
            fill(late);
            while (late.calls() < Counted.MAX_CALLS - 2) {
                unchanging(late);
            }
            due.alike("call 511, sort " + i, () -> late.depth(30), () -> early.depth(30));
            due.alike("call 512, sort " + i, () -> asked.on(late), () -> asked.on(early));
            due.equal("calls that were made", late.calls(), Counted.MAX_CALLS);
        }
    }

    /** One call of the dear ones, which leaves the filled object as it is. */
    private static void unchanging(Counted x) {
        switch (x.calls() % 4) {
            case 0 -> x.pack();
            case 1 -> x.unpack(7);
            case 2 -> x.depth(x.calls() % 160);
            default -> x.blocks();
        }
    }

    /** "A call that throws changes nothing": not even after hundreds of them. */
    private static void refusedCallsAreCalls() {
        Counted x = new Counted().referring(8);
        x.begin(2, Calls.MATCH, 3);
        while (x.calls() < Counted.MAX_CALLS - 4) {
            due.refuses("edit(0, 4)", IllegalArgumentException.class, () -> x.edit(Calls.MATCH, 4));
        }
        due.answers("call 509, finish()", 0, x::finish);
        due.answers("call 510, the bases", 3, () -> x.about(0, 1, false));
        due.answers("call 511, the edits", 1, () -> x.about(0, 2, false));
        due.answers("call 512, the last base", 0, () -> x.base(0, 2, false));
    }

    /** Calls that only answer leave all as it is: the reads, the one under way, the shelf and the archive. */
    private static void lookingChangesNothing() {
        Twins some = new Twins(due, "with some of all", x -> {
            x.referring(24);
            for (int i = 0; i < 4; i++) {
                x.read(8 - i, Calls.MATCH, 2 + i, Calls.INSERT, i);
            }
            x.pack();
            x.unpack(1);
            x.corrupt(1, 9);
            x.begin(3, Calls.MATCH, 5);
        });
        int size = some.one().size();
        some.looks("reads()", 4, Counted::reads);
        some.looks("size()", size, Counted::size);
        some.looks("blocks()", 2, Counted::blocks);
        some.looks("at(1)", 9, x -> x.at(1));
        some.looks("about(3, 3, false)", 5, x -> x.about(3, 3, false));
        some.looks("about(0, 0, true)", 8, x -> x.about(0, 0, true));
        some.looks("base(0, 2, false)", 0, x -> x.base(0, 2, false));
        some.looks("base(0, 1, true)", 1, x -> x.base(0, 1, true));
        some.looks("depth(8)", 0, x -> x.depth(8));
        some.looks("unpack(1) of what is on the shelf", 1, x -> x.unpack(1));
        some.looks("start and edits of the same read again", 0, x -> x.begin(3, Calls.MATCH, 5));
    }

    /** What calls behind the 512th answer is free, but they throw nothing that the document does not name. */
    private static void laterCallsThrowNothingElse() {
        SlicedReads x = new SlicedReads();
        for (int i = 0; i < 10; i++) {
            x.refer(i * 0x1B2D8E47, 16);
        }
        for (int i = 0; i < 3000; i++) {
            int at = i;
            named("start and edits", () -> Calls.read(x, at % 170, Calls.MATCH, 3, Calls.INSERT, at % 4));
            named("pack()", x::pack);
            named("corrupt", () -> Calls.corrupt(x, at % 300, at % 256));
            named("unpack", () -> x.unpack(at % 9));
            named("depth", () -> x.depth(at % 160));
        }
    }

    private static void named(String call, Due.Call asked) {
        try {
            asked.answer();
        } catch (IllegalArgumentException | IllegalStateException | UnsupportedOperationException e) {
            return;
        } catch (RuntimeException e) {
            boolean written = e.getClass() == IndexOutOfBoundsException.class;
            due.equal(call + " throws only what is named, not " + e, written ? 1 : 0, 1);
        }
    }
}
