/** "Terms": of several exceptions the one told first is thrown, and what throws changes nothing. */
public final class EdgeExceptionsTest {
    public static void main(String[] args) {
        Check.sentence("told first: put", EdgeExceptionsTest::firstOfPut);
        Check.sentence("told first: putNumber", EdgeExceptionsTest::firstOfPutNumber);
        Check.sentence("told first: get", EdgeExceptionsTest::firstOfGet);
        Check.sentence("what throws changes nothing: new", () -> refuseAll(new ReplicaHeap(16, 1)));
        Check.sentence("what throws changes nothing: running", () -> refuseAll(Heaps.running()));
        Check.sentence("what throws changes nothing: full, running", () -> refuseAll(Heaps.full(64)));
        Check.sentence("what throws changes nothing: full, at rest", () -> refuseAll(Heaps.fullAtRest(64)));
        Check.sentence("what throws changes nothing: ahead of a flip", EdgeExceptionsTest::aheadOfAFlip);
        Check.end();
    }

    private static void firstOfPut() {
        ReplicaHeap heap = Heaps.running();
        int[][] wrong = {
            // No such first root, or second, and no such field; root 2 has a number.
            {-1, 0, 0}, {-1, -1, 0}, {16, 8, 16}, {0, 1, 16}, {0, -1, -1}, {2, 0, -1}, {2, 0, 16}, {2, -1, 16}
        };
        for (int[] row : wrong) {
            Check.refused("put(" + row[0] + ", " + row[1] + ", " + row[2] + ")", heap, Check.IAE,
                () -> heap.put(row[0], row[1], row[2]));
        }
    }

    private static void firstOfPutNumber() {
        ReplicaHeap heap = Heaps.running();
        for (int root : new int[] {-1, 16}) {
            for (int field : new int[] {-1, 0, 8, Integer.MAX_VALUE}) {
                Check.refused("putNumber(" + root + ", " + field + ", 0)", heap, Check.IAE,
                    () -> heap.putNumber(root, field, 0));
            }
        }
    }

    private static void firstOfGet() {
        ReplicaHeap heap = Heaps.running();
        int[][] wrong = {
            {-1, 0, 0}, {-1, 0, 1}, {16, 2, 0}, {-1, 2, -1}, {0, -1, -1}, {0, 16, 8}, {16, 16, 8}, {16, 0, -1}
        };
        for (int[] row : wrong) {
            Check.refused("get(" + row[0] + ", " + row[1] + ", " + row[2] + ")", heap, Check.IAE,
                () -> heap.get(row[0], row[1], row[2]));
        }
    }

    private static void refuseAll(ReplicaHeap heap) {
        Check.refused("alloc(-1, 1)", heap, Check.IAE, () -> heap.alloc(-1, 1));
        Check.refused("alloc(16, 8)", heap, Check.IAE, () -> heap.alloc(16, 8));
        Check.refused("alloc(0, 0)", heap, Check.IAE, () -> heap.alloc(0, 0));
        Check.refused("alloc(0, 9)", heap, Check.IAE, () -> heap.alloc(0, 9));
        Check.refused("put(0, 0, 16)", heap, Check.IAE, () -> heap.put(0, 0, 16));
        Check.refused("put(16, 0, 0)", heap, Check.IAE, () -> heap.put(16, 0, 0));
        Check.refused("put(0, 8, 1)", heap, Check.ISE, () -> heap.put(0, 8, 1));
        Check.refused("put(3, 0, 1)", heap, Check.ISE, () -> heap.put(3, 0, 1));
        Check.refused("putNumber(16, 0, 7)", heap, Check.IAE, () -> heap.putNumber(16, 0, 7));
        Check.refused("putNumber(0, 8, 7)", heap, Check.ISE, () -> heap.putNumber(0, 8, 7));
        Check.refused("putNumber(3, 0, 7)", heap, Check.ISE, () -> heap.putNumber(3, 0, 7));
        Check.refused("get(5, 16, 0)", heap, Check.IAE, () -> heap.get(5, 16, 0));
        Check.refused("get(16, 0, 0)", heap, Check.IAE, () -> heap.get(16, 0, 0));
        Check.refused("get(5, 0, 8)", heap, Check.ISE, () -> heap.get(5, 0, 8));
        Check.refused("get(0, 3, 0)", heap, Check.ISE, () -> heap.get(0, 3, 0));
        Check.refused("collect(-2)", heap, Check.IAE, () -> heap.collect(-2));
        Check.refused("look(16, 0)", heap, Check.IOOBE, () -> heap.look(16, 0));
        Check.refused("field(0, 8, 0)", heap, Check.IOOBE, () -> heap.field(0, 8, 0));
        Check.refused("cell(2, 0, 0)", heap, Check.IOOBE, () -> heap.cell(2, 0, 0));
        Check.refused("entry(512, 0)", heap, Check.IOOBE, () -> heap.entry(512, 0));
    }

    /** Any step that a refused call made here would be the flip. */
    private static void aheadOfAFlip() {
        ReplicaHeap heap = new ReplicaHeap(64, 64);
        heap.alloc(0, 2);
        heap.collect(6);
        refuseAll(heap);
        Check.due("collect(1)", heap.collect(1), 16);
    }
}
