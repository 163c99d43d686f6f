/** Promise 9: what is seen of a root. */
public final class Promise09LookTest {
    public static void main(String[] args) {
        ReplicaHeap heap = new ReplicaHeap(64, 4);
        heap.alloc(3, 5);
        heap.alloc(15, 8);
        heap.number(0, -7);
        look("a number", heap, 0, 0, -7, 0, -1);
        look("an unused root", heap, 1, 0, 0, 0, -1);
        look("the first object", heap, 3, 1, 0, 5, -1);
        look("the last root", heap, 15, 1, 6, 8, -1);
        heap.number(3, 0);
        heap.collect(1);
        look("a replicated object", heap, 15, 1, 6, 8, 0);
        look("a number, running", heap, 0, 0, -7, 0, -1);
        heap.alloc(2, 1);
        heap.move(3, 2);
        heap.collect(-1);
        look("behind the flip", heap, 15, 1, 0, 8, -1);
        look("behind the flip, another", heap, 3, 1, 9, 1, -1);

        int[][] wrong = {
            {-1, 0}, {16, 0}, {Integer.MAX_VALUE, 0}, {Integer.MIN_VALUE, 0},
            {0, -1}, {0, 4}, {15, 4}, {0, Integer.MAX_VALUE}, {0, Integer.MIN_VALUE}, {16, 4}
        };
        for (int[] row : wrong) {
            Check.refused("look(" + row[0] + ", " + row[1] + ")", heap, Check.IOOBE, () -> heap.look(row[0], row[1]));
        }
        Check.end();
    }

    private static void look(String when, ReplicaHeap heap, int root, int... want) {
        for (int what = 0; what < 4; what++) {
            Check.due(when + ": look(" + root + ", " + what + ")", heap.look(root, what), want[what]);
        }
    }
}
