import java.util.ArrayList;
import java.util.Arrays;
import java.util.HashMap;
import java.util.List;
import java.util.Map;

/**
 * What a sound block is, told without reading one: every way to put reads together is tried, and those whose row has
 * at most two bytes are kept. Of all rows of at most two bytes just theirs are sound, and give these reads again.
 */
public final class EveryReadTest {
    private static final int LONGEST = 2;
    private static final int ROWS = 1 + 256 + 256 * 256;
    private static final int[][] REFERENCES = {{}, {2}, {0, 1, 2, 3}};
    private static final int[] LONG_REFERENCE = {3, 3, 1, 0, 2, 2, 0, 1, 0, 2, 2, 2, 3, 1, 0, 0, 1, 2, 3, 0, 0, 3};
    private static final Due due = new Due();

    private final List<Integer> reference = new ArrayList<>();
    private final int count;
    private final int position;
    private final Map<String, List<ModelRead>> found = new HashMap<>();

    private EveryReadTest(int[] reference, int count, int position) {
        for (int base : reference) {
            this.reference.add(base);
        }
        this.count = count;
        this.position = position;
    }

    public static void main(String[] args) {
        int found = 0;
        for (int[] reference : REFERENCES) {
            for (int count = 1; count <= 3; count++) {
                for (int position = 0; position <= reference.length + 1; position++) {
                    found += new EveryReadTest(reference, count, position).compare();
                }
            }
        }
        for (int position = 0; position < LONG_REFERENCE.length; position += 7) {
            found += new EveryReadTest(LONG_REFERENCE, 1, position).compare();
        }
        due.equal("some short rows are sound", found > 100 ? 1 : 0, 1);
        due.end("EveryReadTest");
    }

    private int compare() {
        if (position <= reference.size()) {
            WrittenRow row = new WrittenRow();
            row.distance(0);
            addEdits(row, List.of(), new ModelRead(position));
        }
        Counted x = holder();
        for (int i = 0; i < ROWS; i++) {
            if (x.calls() > Counted.MAX_CALLS - 120) {
                x = holder();
            }
            compare(x, i == 0 ? new int[0] : i <= 256 ? new int[] {i - 1} : new int[] {(i - 257) >> 8, (i - 257) & 255});
        }
        return found.size();
    }

    /** With an archive that has room for the blocks that are tried. */
    private Counted holder() {
        Counted x = new Counted();
        for (int base : reference) {
            x.refer(base, 1);
        }
        x.read(0, Calls.INSERT, 1, Calls.INSERT, 3, Calls.INSERT, 0, Calls.INSERT, 2, Calls.INSERT, 1);
        x.pack();
        x.overwrite(0, new int[] {count, position});
        return x;
    }

    private void compare(Counted x, int[] row) {
        int[] block = ModelBlock.framed(count, position, row);
        x.overwrite(2, Arrays.copyOfRange(block, 2, block.length));
        List<ModelRead> reads = found.get(Arrays.toString(row));
        String what = "unpack(0) of " + Arrays.toString(block) + " with " + reference;
        if (reads == null) {
            due.refuses(what, IllegalArgumentException.class, () -> x.unpack(0));
            return;
        }
        due.answers(what, count, () -> x.unpack(0));
        for (int i = 0; i < count; i++) {
            compareRead(what, x, i, reads.get(i));
        }
    }

    private void compareRead(String what, Counted x, int read, ModelRead want) {
        List<Integer> bases = want.bases(reference);
        int[] about = {want.position, bases.size(), want.edits.size(), want.passed()};
        for (int i = 0; i < about.length; i++) {
            int each = i;
            due.answers("about " + i + " of " + read + " behind " + what, about[i], () -> x.about(read, each, true));
        }
        for (int k = 0; k < bases.size(); k++) {
            int at = k;
            due.answers("base " + k + " of " + read + " behind " + what, bases.get(k), () -> x.base(read, at, true));
        }
    }

    /** Goes on with each edit that the read can have next, and with its end. */
    private void addEdits(WrittenRow row, List<ModelRead> before, ModelRead read) {
        int place = read.position + read.passed();
        int last = read.lastKind();
        int bases = read.bases(reference).size();
        if (bases > 0) {
            addEnd(row, before, read);
        }
        if (read.edits.size() == 12) {
            return;
        }
        for (int n = 1; n <= reference.size() - place; n++) {
            if (last != Calls.MATCH && bases + n <= 20) {
                addEdit(row, before, read, Calls.MATCH, n);
            }
            if (last != Calls.REMOVE) {
                addEdit(row, before, read, Calls.REMOVE, n);
            }
        }
        for (int b = 0; b < 4 && bases < 20; b++) {
            addEdit(row, before, read, Calls.INSERT, b);
            if (place < reference.size() && reference.get(place) != b) {
                addEdit(row, before, read, Calls.CHANGE, b);
            }
        }
    }

    private void addEdit(WrittenRow row, List<ModelRead> before, ModelRead read, int kind, int number) {
        int place = read.position + read.passed();
        WrittenRow next = row.copy();
        next.edit(read.lastKind(), kind, number, kind == Calls.CHANGE ? reference.get(place) : -1);
        if (next.canBeShort(LONGEST)) {
            addEdits(next, before, read.with(kind, number));
        }
    }

    private void addEnd(WrittenRow row, List<ModelRead> before, ModelRead read) {
        WrittenRow ended = row.copy();
        ended.end(read.lastKind());
        if (!ended.canBeShort(LONGEST)) {
            return;
        }
        List<ModelRead> reads = new ArrayList<>(before);
        reads.add(read);
        if (reads.size() == count) {
            keep(ended.ended(), reads);
            return;
        }
        for (int next = read.position; next <= reference.size(); next++) {
            WrittenRow more = ended.copy();
            more.distance(next - read.position);
            if (more.canBeShort(LONGEST)) {
                addEdits(more, reads, new ModelRead(next));
            }
        }
    }

    private void keep(int[] row, List<ModelRead> reads) {
        if (row.length <= LONGEST) {
            due.equal("reads with the same row", found.put(Arrays.toString(row), reads) == null ? 0 : 1, 0);
        }
    }
}
