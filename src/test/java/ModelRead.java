import java.util.ArrayList;
import java.util.List;

/** A read as the document tells it, valid or not: a position and edits, as pairs of kind and number. */
final class ModelRead {
    final int position;
    final List<int[]> edits = new ArrayList<>();

    ModelRead(int position, int... edits) {
        this.position = position;
        for (int i = 0; i + 1 < edits.length; i += 2) {
            this.edits.add(new int[] {edits[i], edits[i + 1]});
        }
    }

    ModelRead copy() {
        ModelRead copy = new ModelRead(position);
        for (int[] edit : edits) {
            copy.edits.add(edit.clone());
        }
        return copy;
    }

    /** The kind of the last edit, -1 when there is none. */
    int lastKind() {
        return edits.isEmpty() ? -1 : edits.get(edits.size() - 1)[0];
    }

    int passed() {
        int passed = 0;
        for (int[] edit : edits) {
            passed += edit[0] == Calls.INSERT ? 0 : edit[0] == Calls.CHANGE ? 1 : edit[1];
        }
        return passed;
    }

    List<Integer> bases(List<Integer> reference) {
        List<Integer> bases = new ArrayList<>();
        int place = position;
        for (int[] edit : edits) {
            int over = edit[0] == Calls.INSERT ? 0 : edit[0] == Calls.CHANGE ? 1 : edit[1];
            if (edit[0] == Calls.MATCH) {
                bases.addAll(reference.subList(place, place + over));
            } else if (edit[0] != Calls.REMOVE) {
                bases.add(edit[1]);
            }
            place += over;
        }
        return bases;
    }

    /** The same read with an edit more, or made longer. */
    ModelRead with(int kind, int number) {
        ModelRead more = copy();
        int[] last = edits.isEmpty() ? null : more.edits.get(edits.size() - 1);
        if (last != null && last[0] == kind && (kind == Calls.MATCH || kind == Calls.REMOVE)) {
            last[1] += number;
        } else {
            more.edits.add(new int[] {kind, number});
        }
        return more;
    }

    /** Whether each edit is one, has a place in the reference and stands behind one that it may stand behind. */
    boolean isMadeOfEdits(List<Integer> reference) {
        long place = position;
        int before = -1;
        if (position < 0 || position > reference.size()) {
            return false;
        }
        for (int[] edit : edits) {
            boolean longer = edit[0] == Calls.MATCH || edit[0] == Calls.REMOVE;
            if (longer ? edit[1] < 1 || edit[0] == before : edit[1] < 0 || edit[1] > 3) {
                return false;
            }
            long next = place + (longer ? edit[1] : edit[0] == Calls.CHANGE ? 1 : 0);
            if (next > reference.size() || edit[0] == Calls.CHANGE && reference.get((int) place) == edit[1]) {
                return false;
            }
            place = next;
            before = edit[0];
        }
        return true;
    }

    boolean canBe(List<Integer> reference) {
        if (edits.size() > 12 || !isMadeOfEdits(reference)) {
            return false;
        }
        int bases = bases(reference).size();
        return bases >= 1 && bases <= 20;
    }
}
