/** Promise 11: what is seen of the cells of both spaces. */
public final class Promise11CellTest {
    public static void main(String[] args) {
        ReplicaHeap heap = new ReplicaHeap(16, 1);
        heap.alloc(1, 1);
        heap.alloc(0, 2);
        heap.put(0, 0, 1);
        heap.putNumber(0, 1, -6);
        cell("a header", heap, 0, 0, 3, 1, -1);
        cell("a second header", heap, 0, 2, 3, 2, -1);
        cell("a reference", heap, 0, 3, 1, 0, -1);
        cell("a number", heap, 0, 4, 0, -6, -1);
        refused(heap, 0, 5, 0);
        refused(heap, 1, 0, 0);

        heap.collect(0);
        refused(heap, 1, 0, 0);
        heap.collect(1);
        cell("a header with a replica", heap, 0, 2, 3, 2, 0);
        cell("its copy", heap, 1, 0, 3, 2, -1);
        cell("a copied reference", heap, 1, 1, 1, 0, -1);
        cell("a copied number", heap, 1, 2, 0, -6, -1);
        refused(heap, 1, 3, 0);
        heap.collect(2);
        cell("a scanned reference", heap, 1, 1, 2, 3, -1);
        cell("the original of it", heap, 0, 3, 1, 0, -1);
        cell("a second replica", heap, 0, 0, 3, 1, 3);
        refused(heap, 1, 5, 0);

        heap.collect(-1);
        cell("behind the flip", heap, 1, 1, 2, 3, -1);
        refused(heap, 0, 0, 0);
        refused(heap, 1, 5, 0);
        heap.alloc(2, 1);
        cell("a new header behind the flip", heap, 1, 5, 3, 1, -1);
        heap.put(2, 0, 2);
        cell("a new reference behind the flip", heap, 1, 6, 2, 5, -1);
        heap.collect(1);
        cell("a copied reference to space 1", heap, 0, 1, 2, 3, -1);

        int[][] wrong = {
            {-1, 0, 0}, {2, 0, 0}, {Integer.MAX_VALUE, 0, 0}, {Integer.MIN_VALUE, 0, 0},
            {1, -1, 0}, {1, 7, 0}, {1, 16, 0}, {1, Integer.MAX_VALUE, 0}, {1, Integer.MIN_VALUE, 0},
            {1, 0, -1}, {1, 0, 3}, {1, 0, Integer.MAX_VALUE}, {1, 0, Integer.MIN_VALUE}
        };
        for (int[] row : wrong) {
            refused(heap, row[0], row[1], row[2]);
        }
        Check.end();
    }

    private static void cell(String when, ReplicaHeap heap, int space, int place, int... want) {
        for (int what = 0; what < 3; what++) {
            Check.due(when + ": cell(" + space + ", " + place + ", " + what + ")",
                heap.cell(space, place, what), want[what]);
        }
    }

    private static void refused(ReplicaHeap heap, int space, int place, int what) {
        Check.refused("cell(" + space + ", " + place + ", " + what + ")", heap, Check.IOOBE,
            () -> heap.cell(space, place, what));
    }
}
