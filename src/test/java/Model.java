import java.util.ArrayList;
import java.util.Arrays;
import java.util.List;

/** The whole document once more, written for plainness alone, to compare the program with. */
final class Model {
    private List<Integer> reference = new ArrayList<>();
    private List<ModelRead> reads = new ArrayList<>();
    private ModelRead underWay = null;
    private List<ModelRead> shelf = new ArrayList<>();
    private List<Integer> archive = new ArrayList<>();

    int refer(int w, int n) {
        if (n < 1 || n > 16) {
            throw new IllegalArgumentException();
        }
        if (!reads.isEmpty() || underWay != null) {
            throw new IllegalStateException();
        }
        if (reference.size() + n > 160) {
            throw new UnsupportedOperationException();
        }
        long bits = w & 0xFFFFFFFFL;
        for (int i = 0; i < n; i++) {
            reference.add((int) (bits % 4));
            bits /= 4;
        }
        return reference.size();
    }

    int clear(boolean all) {
        reads.clear();
        underWay = null;
        if (all) {
            reference = new ArrayList<>();
            shelf = new ArrayList<>();
        }
        return 0;
    }

    int start(int position) {
        if (position < 0 || position > reference.size()) {
            throw new IndexOutOfBoundsException();
        }
        underWay = new ModelRead(position);
        return 0;
    }

    int edit(int kind, int number) {
        if (underWay == null) {
            throw new IllegalStateException();
        }
        if (kind < 0 || kind > 3 || number < 0 || number > 160 || number == 0 && (kind == 0 || kind == 3)) {
            throw new IllegalArgumentException();
        }
        ModelRead more = underWay.with(kind, number);
        if (!more.isMadeOfEdits(reference)) {
            throw new IllegalArgumentException();
        }
        if (more.edits.size() > 12 || more.bases(reference).size() > 20) {
            throw new UnsupportedOperationException();
        }
        underWay = more;
        return 0;
    }

    int finish() {
        if (underWay == null || underWay.bases(reference).isEmpty()) {
            throw new IllegalStateException();
        }
        if (reads.size() == 24) {
            throw new UnsupportedOperationException();
        }
        reads.add(underWay);
        underWay = null;
        return reads.size() - 1;
    }

    int reads() {
        return reads.size();
    }

    int about(int read, int what, boolean onShelf) {
        ModelRead found = find(read, onShelf);
        return switch (what) {
            case 0 -> found.position;
            case 1 -> found.bases(reference).size();
            case 2 -> found.edits.size();
            case 3 -> found.passed();
            default -> throw new IllegalArgumentException();
        };
    }

    int base(int read, int k, boolean onShelf) {
        List<Integer> bases = find(read, onShelf).bases(reference);
        if (k < 0 || k >= bases.size()) {
            throw new IndexOutOfBoundsException();
        }
        return bases.get(k);
    }

    private ModelRead find(int read, boolean onShelf) {
        List<ModelRead> row = onShelf ? shelf : reads;
        if (read < 0 || read >= row.size()) {
            throw new IndexOutOfBoundsException();
        }
        return row.get(read);
    }

    int pack() {
        List<ModelRead> sorted = new ArrayList<>(reads);
        sorted.sort((a, b) -> Integer.compare(a.position, b.position));
        archive = new ArrayList<>();
        for (int from = 0; from < sorted.size(); from += 3) {
            List<ModelRead> some = sorted.subList(from, Math.min(from + 3, sorted.size()));
            for (int each : ModelBlock.bytesOf(reference, some)) {
                archive.add(each);
            }
        }
        return archive.size();
    }

    /** Where each block that begins in the archive begins. */
    private List<Integer> begins() {
        List<Integer> begins = new ArrayList<>();
        int begin = 0;
        while (begin < archive.size()) {
            begins.add(begin);
            if (begin + 2 >= archive.size()) {
                break;
            }
            begin += 5 + archive.get(begin + 2);
        }
        return begins;
    }

    int blocks() {
        return begins().size();
    }

    int size() {
        return archive.size();
    }

    int at(int k) {
        if (k < 0 || k >= archive.size()) {
            throw new IndexOutOfBoundsException();
        }
        return archive.get(k);
    }

    int corrupt(int k, int b) {
        if (k < 0 || k >= archive.size()) {
            throw new IndexOutOfBoundsException();
        }
        if (b < 0 || b > 255) {
            throw new IllegalArgumentException();
        }
        archive.set(k, b);
        return 0;
    }

    private List<ModelRead> readsAt(int begin) {
        int end = begin + 2 < archive.size() ? begin + 5 + archive.get(begin + 2) : Integer.MAX_VALUE;
        if (end > archive.size()) {
            throw new IllegalArgumentException();
        }
        int[] block = archive.subList(begin, end).stream().mapToInt(Integer::intValue).toArray();
        List<ModelRead> found = ModelBlock.readsOf(reference, block);
        if (found == null) {
            throw new IllegalArgumentException();
        }
        return found;
    }

    int unpack(int block) {
        List<Integer> begins = begins();
        if (block < 0 || block >= begins.size()) {
            throw new IndexOutOfBoundsException();
        }
        shelf = readsAt(begins.get(block));
        return shelf.size();
    }

    int depth(int p) {
        if (p < 0 || p >= reference.size()) {
            throw new IndexOutOfBoundsException();
        }
        int found = 0;
        for (int begin : begins()) {
            if (begin + 1 < archive.size() && archive.get(begin + 1) > p) {
                return found;
            }
            for (ModelRead read : readsAt(begin)) {
                boolean[] over = new boolean[160];
                Arrays.fill(over, read.position, read.position + read.passed(), true);
                found += over[p] ? 1 : 0;
            }
        }
        return found;
    }
}
