/** Promise 1: the sizes of a new heap, and that it is empty. */
public final class Promise01NewObjectTest {
    public static void main(String[] args) {
        int[][] cellsAndDue = {
            {16, 16}, {17, 17}, {399, 399}, {400, 400},
            {15, 64}, {401, 64}, {0, 64}, {-1, 64}, {Integer.MAX_VALUE, 64}, {Integer.MIN_VALUE, 64}
        };
        for (int[] row : cellsAndDue) {
            Check.due("cells of " + row[0], new ReplicaHeap(row[0], 4).count(12), row[1]);
        }
        int[][] quantumAndDue = {
            {1, 1}, {2, 2}, {63, 63}, {64, 64},
            {0, 4}, {65, 4}, {-1, 4}, {Integer.MAX_VALUE, 4}, {Integer.MIN_VALUE, 4}
        };
        for (int[] row : quantumAndDue) {
            Check.due("quantum of " + row[0], unitsOfOneChange(row[0]), row[1]);
        }
        Check.counts("new", new ReplicaHeap(16, 2), 0, 0, 0, 0, 0, 0, 0, 0, 0, 0, 0, 0, 16);
        ReplicaHeap heap = new ReplicaHeap(16, 2);
        for (int root = 0; root < 16; root++) {
            Check.due("look(" + root + ", 0)", heap.look(root, 0), 0);
            Check.due("look(" + root + ", 1)", heap.look(root, 1), 0);
        }
        twoHeapsHaveNothingInCommon();
        Check.end();
    }

    /** 72 copied cells of numbers are left to scan, one unit each, so the change meets the quantum exactly. */
    private static int unitsOfOneChange(int quantum) {
        ReplicaHeap heap = new ReplicaHeap(400, quantum);
        heap.alloc(0, 8);
        for (int field = 0; field < 8; field++) {
            heap.alloc(1, 8);
            heap.put(0, field, 1);
        }
        heap.collect(9 + 9 + 8 * 9);
        Check.due("cells left to scan", heap.count(3) - heap.count(4), 72);
        int before = heap.count(9);
        heap.putNumber(0, 0, 5);
        return heap.count(9) - before;
    }

    private static void twoHeapsHaveNothingInCommon() {
        ReplicaHeap one = new ReplicaHeap(16, 2);
        ReplicaHeap two = new ReplicaHeap(16, 2);
        String before = Picture.of(two);
        one.alloc(0, 8);
        one.collect(3);
        one.putNumber(0, 0, 9);
        Check.unchanged("another heap's calls", two, before);
    }
}
