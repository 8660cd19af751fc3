import java.math.BigInteger;
import java.util.ArrayList;
import java.util.Arrays;
import java.util.HashMap;
import java.util.List;
import java.util.Map;

/**
 * The bytes of a block, made and read another way than the program does: the coder's row and LOW are one
 * number without an end, so that nothing is ever carried, and each likelihood has a name.
 */
final class ModelBlock {
    private static final BigInteger BYTE = BigInteger.valueOf(256);
    private static final BigInteger WORD = BigInteger.valueOf(1L << 32);

    private final Map<String, Integer> likelihoods = new HashMap<>();
    private BigInteger low = BigInteger.ZERO;
    private long range = 0xFFFFFFFFL;
    private int bytes = 4;
    /** What LOW and RANGE came to in each decision, before anything was carried or shifted out of them. */
    final List<Long> lows = new ArrayList<>();
    final List<Long> ranges = new ArrayList<>();
    /** For each carry, how many bytes 255 at the row's end it went through. */
    final List<Integer> carries = new ArrayList<>();
    /** The row that is read, or null when one is made. */
    private final int[] given;

    private ModelBlock(int[] given) {
        this.given = given;
    }

    /** The bytes of a block with these reads, whether there can be such reads or not. */
    static int[] bytesOf(List<Integer> reference, List<ModelRead> reads) {
        return framed(reads.size(), reads.get(0).position, rowOf(reference, reads, 0));
    }

    static int[] rowOf(List<Integer> reference, List<ModelRead> reads, int firstDistance) {
        return coderOf(reference, reads, firstDistance).row();
    }

    /** The coder behind its last decision of a block. */
    static ModelBlock coderOf(List<Integer> reference, List<ModelRead> reads, int firstDistance) {
        ModelBlock coder = new ModelBlock(null);
        int before = reads.get(0).position - firstDistance;
        for (ModelRead read : reads) {
            coder.number("distance", read.position - before);
            before = read.position;
            String last = "none";
            int place = read.position;
            for (int[] edit : read.edits) {
                coder.kind(last, "MCIR".substring(edit[0], edit[0] + 1));
                last = "MCIR".substring(edit[0], edit[0] + 1);
                switch (last) {
                    case "M" -> coder.number("match", edit[1] - 1);
                    case "R" -> coder.number("remove", edit[1] - 1);
                    case "C" -> coder.change(reference.get(place), edit[1]);
                    default -> coder.insert(edit[1]);
                }
                place += edit[0] == Calls.INSERT ? 0 : edit[0] == Calls.CHANGE ? 1 : edit[1];
            }
            coder.kind(last, "E");
        }
        return coder;
    }

    /** A row with head and check. */
    static int[] framed(int reads, int position, int[] row) {
        int[] block = new int[row.length + 5];
        block[0] = reads;
        block[1] = position;
        block[2] = row.length;
        System.arraycopy(row, 0, block, 3, row.length);
        long check = 7;
        for (int i = 0; i < row.length + 3; i++) {
            check = (31 * check + block[i]) % 65521;
        }
        block[row.length + 3] = (int) (check >> 8);
        block[row.length + 4] = (int) (check & 255);
        return block;
    }

    /** The reads of a sound block, else null. */
    static List<ModelRead> readsOf(List<Integer> reference, int[] block) {
        if (block.length < 5 || block.length != 5 + block[2] || block[0] < 1 || block[0] > 3) {
            return null;
        }
        ModelBlock coder = new ModelBlock(Arrays.copyOfRange(block, 3, block.length - 2));
        List<ModelRead> reads = new ArrayList<>();
        int position = block[1];
        for (int i = 0; i < block[0]; i++) {
            position += coder.number("distance", 0);
            ModelRead read = coder.readAt(position, reference);
            if (read == null || !read.canBe(reference)) {
                return null;
            }
            reads.add(read);
        }
        return Arrays.equals(bytesOf(reference, reads), block) ? reads : null;
    }

    private ModelRead readAt(int position, List<Integer> reference) {
        ModelRead read = new ModelRead(position);
        String last = "none";
        while (true) {
            last = kind(last, "E");
            if (last.equals("E")) {
                return read;
            }
            int place = position + read.passed();
            if (read.edits.size() == 12 || last.equals("C") && place >= reference.size()) {
                return null;
            }
            int number = switch (last) {
                case "M" -> number("match", 0) + 1;
                case "R" -> number("remove", 0) + 1;
                case "C" -> change(reference.get(place), 0);
                default -> insert(0);
            };
            read.edits.add(new int[] {"MCIR".indexOf(last), number});
        }
    }

    private int[] row() {
        int[] row = wholeRow();
        return Arrays.copyOf(row, row.length - zeros());
    }

    /** The row with the bytes 0 at its end. */
    private int[] wholeRow() {
        int[] row = new int[bytes];
        BigInteger left = low;
        for (int i = bytes - 1; i >= 0; i--) {
            row[i] = left.mod(BYTE).intValue();
            left = left.divide(BYTE);
        }
        return row;
    }

    /** How many bytes 0 the row has at its end. */
    int zeros() {
        int[] row = wholeRow();
        int zeros = 0;
        while (zeros < row.length && row[row.length - 1 - zeros] == 0) {
            zeros++;
        }
        return zeros;
    }

    private BigInteger givenValue() {
        BigInteger value = BigInteger.ZERO;
        for (int i = 0; i < bytes; i++) {
            value = value.multiply(BYTE).add(BigInteger.valueOf(i < given.length ? given[i] : 0));
        }
        return value;
    }

    private int split(int p, int bit) {
        long bound = range / 2048 * p;
        BigInteger middle = low.add(BigInteger.valueOf(bound));
        int coded = given == null ? bit : givenValue().compareTo(middle) < 0 ? 0 : 1;
        if (coded == 0) {
            range = bound;
        } else {
            note(bound);
            low = middle;
            range -= bound;
        }
        ranges.add(range);
        while (range < 1 << 24) {
            low = low.multiply(BYTE);
            range *= 256;
            bytes++;
        }
        return coded;
    }

    private void note(long bound) {
        long grown = low.mod(WORD).longValue() + bound;
        lows.add(grown);
        if (grown >= 1L << 32) {
            int through = 0;
            for (BigInteger row = low.divide(WORD); row.mod(BYTE).intValue() == 255; row = row.divide(BYTE)) {
                through++;
            }
            carries.add(through);
        }
    }

    private int bit(String name, int bit) {
        int p = likelihoods.getOrDefault(name, 1024);
        int coded = split(p, bit);
        likelihoods.put(name, coded == 0 ? p + (2048 - p) / 16 : p - p / 16);
        return coded;
    }

    private int number(String group, int v) {
        int highest = 31 - Integer.numberOfLeadingZeros(v + 1);
        int k = 0;
        while (k < 9 && bit(group + k, k < highest ? 1 : 0) == 1) {
            k++;
        }
        int coded = 1;
        for (int i = k - 1; i >= 0; i--) {
            coded = coded << 1 | split(1024, (v + 1) >> i & 1);
        }
        return coded - 1;
    }

    private String kind(String before, String kind) {
        for (String each : new String[] {"M", "E", "C", "I"}) {
            if (bit("kind behind " + before + " is " + each, kind.equals(each) ? 0 : 1) == 0) {
                return each;
            }
        }
        return "R";
    }

    private int change(int over, int b) {
        List<Integer> others = new ArrayList<>(List.of(0, 1, 2, 3));
        others.remove(Integer.valueOf(over));
        int c = others.indexOf(b);
        if (bit("change of " + over, c == 0 ? 0 : 1) == 0) {
            return others.get(0);
        }
        return others.get(1 + bit("other change of " + over, c == 1 ? 0 : 1));
    }

    private int insert(int b) {
        int high = bit("insert", b >> 1);
        return high << 1 | bit("insert behind " + high, b & 1);
    }
}
