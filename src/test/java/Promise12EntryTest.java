/** Promise 12: the entries of the log, taken ones too, until the flip. */
public final class Promise12EntryTest {
    public static void main(String[] args) {
        ReplicaHeap heap = new ReplicaHeap(64, 1);
        heap.alloc(0, 2);
        heap.alloc(1, 8);
        heap.putNumber(0, 0, 1);
        refused(heap, 0, 0);
        heap.collect(0);
        refused(heap, 0, 0);
        heap.putNumber(1, 7, 1);
        heap.put(0, 1, 1);
        heap.putNumber(1, 7, 1);
        entry(heap, 0, 3, 7);
        entry(heap, 1, 0, 1);
        entry(heap, 2, 3, 7);
        int[][] wrong = {
            {-1, 0}, {3, 0}, {Integer.MAX_VALUE, 0}, {Integer.MIN_VALUE, 0},
            {0, -1}, {0, 2}, {0, Integer.MAX_VALUE}, {0, Integer.MIN_VALUE}
        };
        for (int[] row : wrong) {
            refused(heap, row[0], row[1]);
        }
        heap.collect(-1);
        refused(heap, 0, 0);
        heap.collect(0);
        refused(heap, 0, 0);
        keepsEveryEntryOfALongCollection();
        Check.end();
    }

    /** With a quantum of 1 a change pays for its own entry alone, so the log grows as long as the calls last. */
    private static void keepsEveryEntryOfALongCollection() {
        ReplicaHeap heap = new ReplicaHeap(400, 1);
        heap.alloc(0, 8);
        heap.collect(0);
        for (int i = 0; i < 254; i++) {
            heap.putNumber(0, i % 8, i);
        }
        for (int i = 0; i < 254; i += 2) {
            entry(heap, i, 0, i % 8);
        }
        Check.due("entries", heap.count(5), 254);
        ReplicaHeap longest = new ReplicaHeap(400, 1);
        longest.alloc(0, 8);
        longest.collect(0);
        for (int i = 0; i < 507; i++) {
            longest.putNumber(0, i % 8, i);
        }
        Check.due("the most entries", longest.count(5), 507);
        Check.due("the most entries taken", longest.count(6), 507);
        Check.due("the last entry", longest.entry(506, 1), 506 % 8);
    }

    private static void entry(ReplicaHeap heap, int i, int place, int field) {
        Check.due("entry(" + i + ", 0)", heap.entry(i, 0), place);
        Check.due("entry(" + i + ", 1)", heap.entry(i, 1), field);
    }

    private static void refused(ReplicaHeap heap, int i, int what) {
        Check.refused("entry(" + i + ", " + what + ")", heap, Check.IOOBE, () -> heap.entry(i, what));
    }
}
