/** Promise 10: the bounds of root, field and what, and a root without an object. */
public final class Edge10FieldTest {
    public static void main(String[] args) {
        Check.sentence("what 0, 1 of a number", Edge10FieldTest::ofANumber);
        Check.sentence("what 0, 1 of a reference", Edge10FieldTest::ofAReference);
        Check.sentence("a reference behind a flip", Edge10FieldTest::behindAFlip);
        Check.sentence("the first and the last root and field", Edge10FieldTest::firstAndLast);
        Check.sentence("no such root", Edge10FieldTest::noSuchRoot);
        Check.sentence("no such object", Edge10FieldTest::noSuchObject);
        Check.sentence("no such field", Edge10FieldTest::noSuchField);
        Check.sentence("no such what", Edge10FieldTest::noSuchWhat);
        Check.end();
    }

    private static void field(ReplicaHeap heap, int root, int field, int kind, int value) {
        Check.due("field(" + root + ", " + field + ", 0)", heap.field(root, field, 0), kind);
        Check.due("field(" + root + ", " + field + ", 1)", heap.field(root, field, 1), value);
    }

    private static void ofANumber() {
        ReplicaHeap heap = new ReplicaHeap(64, 1);
        heap.alloc(0, 2);
        field(heap, 0, 0, 0, 0);
        for (int number : new int[] {1, -1, Integer.MAX_VALUE, Integer.MIN_VALUE}) {
            heap.putNumber(0, 1, number);
            field(heap, 0, 1, 0, number);
        }
    }

    private static void ofAReference() {
        ReplicaHeap heap = new ReplicaHeap(64, 1);
        heap.alloc(0, 2);
        heap.alloc(1, 1);
        heap.put(0, 0, 0);
        heap.put(0, 1, 1);
        field(heap, 0, 0, 1, 0);
        field(heap, 0, 1, 1, 3);
    }

    private static void behindAFlip() {
        ReplicaHeap heap = new ReplicaHeap(64, 1);
        heap.alloc(1, 1);
        heap.alloc(0, 2);
        heap.put(0, 1, 1);
        heap.number(1, 0);
        heap.collect(3 + 1 + 1 + 3);
        field(heap, 0, 1, 1, 0);
        heap.collect(-1);
        // In space 1 a reference is told as 1 here as well.
        field(heap, 0, 1, 1, 3);
        field(heap, 0, 0, 0, 0);
    }

    private static void firstAndLast() {
        for (int fields = 1; fields <= 8; fields++) {
            ReplicaHeap heap = new ReplicaHeap(64, 1);
            heap.alloc(0, fields);
            heap.alloc(15, fields);
            heap.putNumber(0, 0, 3);
            heap.putNumber(0, fields - 1, 4);
            heap.putNumber(15, fields - 1, 5);
            field(heap, 0, 0, 0, fields == 1 ? 4 : 3);
            field(heap, 0, fields - 1, 0, 4);
            field(heap, 15, fields - 1, 0, 5);
        }
    }

    private static void noSuchRoot() {
        ReplicaHeap heap = Heaps.running();
        Check.eachOutside(0, 15, root ->
            Check.refused("field(" + root + ", 0, 0)", heap, Check.IOOBE, () -> heap.field(root, 0, 0)));
    }

    private static void noSuchObject() {
        ReplicaHeap heap = Heaps.running();
        for (int what = 0; what < 2; what++) {
            int asked = what;
            Check.refused("field(2, 0, " + what + ")", heap, Check.IOOBE, () -> heap.field(2, 0, asked));
            Check.refused("field(3, 0, " + what + ")", heap, Check.IOOBE, () -> heap.field(3, 0, asked));
        }
        heap.number(2, Integer.MAX_VALUE);
        Check.refused("field(2, 0, 1), no place at all", heap, Check.IOOBE, () -> heap.field(2, 0, 1));
        ReplicaHeap empty = new ReplicaHeap(16, 1);
        Check.refused("field(0, 0, 0), new", empty, Check.IOOBE, () -> empty.field(0, 0, 0));
    }

    private static void noSuchField() {
        ReplicaHeap heap = Heaps.running();
        int[][] rootsAndFields = {{0, 1}, {1, 8}, {15, 2}};
        for (int[] row : rootsAndFields) {
            Check.eachOutside(0, row[1] - 1, field ->
                Check.refused("field(" + row[0] + ", " + field + ", 1)", heap, Check.IOOBE,
                    () -> heap.field(row[0], field, 1)));
        }
    }

    private static void noSuchWhat() {
        ReplicaHeap heap = Heaps.running();
        Check.eachOutside(0, 1, what ->
            Check.refused("field(1, 0, " + what + ")", heap, Check.IOOBE, () -> heap.field(1, 0, what)));
    }
}
