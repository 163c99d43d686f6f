/** Promise 3: the bounds of both roots and of the field. */
public final class Edge03PutTest {
    public static void main(String[] args) {
        Check.sentence("becomes what another root has: a number", Edge03PutTest::number);
        Check.sentence("becomes what another root has: a reference", Edge03PutTest::reference);
        Check.sentence("or the same", Edge03PutTest::sameRoot);
        Check.sentence("the first and the last root, both ways", Edge03PutTest::firstAndLastRoot);
        Check.sentence("the first and the last field, no other", Edge03PutTest::firstAndLastField);
        Check.sentence("no such first root", Edge03PutTest::noSuchFirstRoot);
        Check.sentence("no such second root", Edge03PutTest::noSuchSecondRoot);
        Check.sentence("the first one refers to no object", Edge03PutTest::noObject);
        Check.sentence("that has no such field", Edge03PutTest::noSuchField);
        Check.sentence("refused: no entry, no work", Edge03PutTest::refusedWhileRunning);
        Check.end();
    }

    private static void number() {
        ReplicaHeap heap = new ReplicaHeap(64, 1);
        heap.alloc(0, 1);
        heap.put(0, 0, 0);
        for (int number : new int[] {0, -1, 15, Integer.MAX_VALUE, Integer.MIN_VALUE}) {
            heap.number(1, number);
            heap.put(0, 0, 1);
            Check.due("field(0, 0, 0)", heap.field(0, 0, 0), 0);
            Check.due("field(0, 0, 1)", heap.field(0, 0, 1), number);
        }
    }

    private static void reference() {
        ReplicaHeap heap = new ReplicaHeap(64, 1);
        heap.alloc(1, 1);
        heap.alloc(2, 1);
        heap.alloc(0, 1);
        for (int from = 1; from <= 2; from++) {
            heap.put(0, 0, from);
            Check.due("field(0, 0, 0)", heap.field(0, 0, 0), 1);
            Check.due("field(0, 0, 1)", heap.field(0, 0, 1), 2 * (from - 1));
            Check.due("the root still has it", heap.look(from, 1), 2 * (from - 1));
        }
    }

    private static void sameRoot() {
        ReplicaHeap heap = new ReplicaHeap(64, 1);
        heap.alloc(1, 3);
        heap.alloc(0, 2);
        heap.put(0, 1, 0);
        Check.due("field(0, 1, 0)", heap.field(0, 1, 0), 1);
        Check.due("field(0, 1, 1)", heap.field(0, 1, 1), 4);
        Check.due("look(0, 1)", heap.look(0, 1), 4);
    }

    private static void firstAndLastRoot() {
        ReplicaHeap heap = new ReplicaHeap(64, 1);
        heap.alloc(0, 1);
        heap.alloc(15, 1);
        heap.put(0, 0, 15);
        heap.put(15, 0, 0);
        Check.due("field(0, 0, 1)", heap.field(0, 0, 1), 2);
        Check.due("field(15, 0, 1)", heap.field(15, 0, 1), 0);
        Check.due("field(15, 0, 0)", heap.field(15, 0, 0), 1);
    }

    private static void firstAndLastField() {
        for (int fields = 1; fields <= 8; fields++) {
            ReplicaHeap heap = new ReplicaHeap(64, 1);
            heap.alloc(2, 1);
            heap.alloc(0, fields);
            heap.alloc(3, 1);
            heap.number(1, 77);
            heap.put(0, 0, 0);
            heap.put(0, fields - 1, 1);
            Check.due("the last field", heap.field(0, fields - 1, 1), 77);
            Check.due("the first field", heap.field(0, 0, 0), fields == 1 ? 0 : 1);
            for (int field = 1; field < fields - 1; field++) {
                Check.due("a field between", heap.field(0, field, 1), 0);
            }
            Check.due("fields", heap.look(0, 2), fields);
            Check.due("the object ahead", heap.field(2, 0, 1), 0);
            Check.due("the object behind", heap.field(3, 0, 1), 0);
            Check.due("its fields", heap.look(3, 2), 1);
        }
    }

    private static void noSuchFirstRoot() {
        ReplicaHeap heap = Heaps.running();
        Check.eachOutside(0, 15, root ->
            Check.refused("put(" + root + ", 0, 0)", heap, Check.IAE, () -> heap.put(root, 0, 0)));
    }

    private static void noSuchSecondRoot() {
        ReplicaHeap heap = Heaps.running();
        Check.eachOutside(0, 15, from ->
            Check.refused("put(0, 0, " + from + ")", heap, Check.IAE, () -> heap.put(0, 0, from)));
    }

    private static void noObject() {
        ReplicaHeap heap = Heaps.running();
        // Root 2 has the number 2, and an object lies at 2; root 3 was never used.
        Check.refused("put(2, 0, 0)", heap, Check.ISE, () -> heap.put(2, 0, 0));
        Check.refused("put(3, 0, 0)", heap, Check.ISE, () -> heap.put(3, 0, 0));
        heap.number(2, Integer.MAX_VALUE);
        Check.refused("put(2, 0, 0), no place at all", heap, Check.ISE, () -> heap.put(2, 0, 0));
        ReplicaHeap empty = new ReplicaHeap(16, 1);
        Check.refused("put(0, 0, 0), new", empty, Check.ISE, () -> empty.put(0, 0, 0));
    }

    private static void noSuchField() {
        ReplicaHeap heap = Heaps.running();
        // Objects of 1, 8 and 2 fields; behind the first two lie others.
        int[][] rootsAndFields = {{0, 1}, {1, 8}, {15, 2}};
        for (int[] row : rootsAndFields) {
            Check.eachOutside(0, row[1] - 1, field ->
                Check.refused("put(" + row[0] + ", " + field + ", 0)", heap, Check.ISE,
                    () -> heap.put(row[0], field, 0)));
        }
    }

    private static void refusedWhileRunning() {
        ReplicaHeap heap = Heaps.scanning(64);
        Check.refused("put(0, 8, 0)", heap, Check.ISE, () -> heap.put(0, 8, 0));
        Check.refused("put(2, 0, 0)", heap, Check.ISE, () -> heap.put(2, 0, 0));
        Check.refused("put(0, 0, 16)", heap, Check.IAE, () -> heap.put(0, 0, 16));
        Check.due("entries", heap.count(5), 0);
    }
}
