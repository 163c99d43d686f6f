/** Promise 10: what is seen of a field. */
public final class Promise10FieldTest {
    public static void main(String[] args) {
        ReplicaHeap heap = new ReplicaHeap(64, 4);
        heap.alloc(0, 2);
        heap.alloc(15, 8);
        heap.put(15, 0, 0);
        heap.put(15, 7, 15);
        heap.putNumber(0, 1, 3);
        field("a reference", heap, 15, 0, 1, 0);
        field("a reference to itself", heap, 15, 7, 1, 3);
        field("a number", heap, 0, 1, 0, 3);
        field("a new field", heap, 0, 0, 0, 0);
        heap.number(0, 0);
        heap.collect(1);
        field("a reference, running", heap, 15, 7, 1, 3);
        heap.collect(-1);
        field("a reference behind the flip", heap, 15, 0, 1, 9);
        field("a reference to itself behind the flip", heap, 15, 7, 1, 0);

        int[][] wrong = {
            {-1, 0, 0}, {16, 0, 0}, {Integer.MAX_VALUE, 0, 0}, {Integer.MIN_VALUE, 0, 0},
            {0, 0, 0}, {1, 0, 1},
            {15, -1, 0}, {15, 8, 0}, {15, Integer.MAX_VALUE, 0}, {15, Integer.MIN_VALUE, 1},
            {15, 0, -1}, {15, 0, 2}, {15, 0, Integer.MAX_VALUE}, {15, 0, Integer.MIN_VALUE}
        };
        for (int[] row : wrong) {
            Check.refused("field(" + row[0] + ", " + row[1] + ", " + row[2] + ")", heap, Check.IOOBE,
                () -> heap.field(row[0], row[1], row[2]));
        }
        Check.end();
    }

    private static void field(String when, ReplicaHeap heap, int root, int field, int... want) {
        for (int what = 0; what < 2; what++) {
            Check.due(when + ": field(" + root + ", " + field + ", " + what + ")",
                heap.field(root, field, what), want[what]);
        }
    }
}
