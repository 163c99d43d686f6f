/** Promise 5: a root becomes what a field has, which is no change and pays for nothing. */
public final class Promise05GetTest {
    public static void main(String[] args) {
        getsNumbersAndReferences();
        getsOriginalsWhileACollectionRuns();
        refusesWrongInputs();
        Check.end();
    }

    private static void getsNumbersAndReferences() {
        ReplicaHeap heap = new ReplicaHeap(64, 4);
        heap.alloc(0, 2);
        heap.alloc(1, 3);
        heap.put(0, 0, 1);
        heap.putNumber(0, 1, -9);
        heap.get(15, 0, 0);
        Check.due("look(15, 0)", heap.look(15, 0), 1);
        Check.due("look(15, 1)", heap.look(15, 1), 3);
        heap.get(15, 0, 1);
        Check.due("look(15, 0), a number", heap.look(15, 0), 0);
        Check.due("look(15, 1), a number", heap.look(15, 1), -9);
        heap.get(0, 0, 0);
        Check.due("into itself", heap.look(0, 1), 3);
        Check.due("into itself, fields", heap.look(0, 2), 3);
    }

    private static void getsOriginalsWhileACollectionRuns() {
        ReplicaHeap heap = new ReplicaHeap(64, 4);
        heap.alloc(2, 3);
        heap.alloc(0, 1);
        heap.put(0, 0, 2);
        heap.number(2, 0);
        heap.collect(8);
        Check.due("the copy refers to the replica", heap.cell(1, 1, 0), 2);
        int units = heap.count(9);
        heap.get(2, 0, 0);
        Check.due("look(2, 1)", heap.look(2, 1), 0);
        Check.due("look(2, 3)", heap.look(2, 3), 2);
        Check.due("entries", heap.count(5), 0);
        Check.due("units", heap.count(9), units);
    }

    private static void refusesWrongInputs() {
        ReplicaHeap heap = new ReplicaHeap(64, 1);
        heap.alloc(0, 2);
        heap.collect(1);
        int[][] wrong = {
            {-1, 0, 0, Check.IAE}, {16, 0, 0, Check.IAE}, {0, -1, 0, Check.IAE}, {0, 16, 0, Check.IAE},
            {16, 1, 0, Check.IAE}, {16, 0, 2, Check.IAE}, {Integer.MAX_VALUE, Integer.MIN_VALUE, 0, Check.IAE},
            {0, 1, 0, Check.ISE}, {1, 0, 2, Check.ISE}, {1, 0, -1, Check.ISE},
            {1, 0, Integer.MAX_VALUE, Check.ISE}, {1, 0, Integer.MIN_VALUE, Check.ISE}
        };
        for (int[] row : wrong) {
            Check.refused("get(" + row[0] + ", " + row[1] + ", " + row[2] + ")", heap, row[3],
                () -> heap.get(row[0], row[1], row[2]));
        }
    }
}
