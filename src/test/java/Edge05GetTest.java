/** Promise 5: the bounds of both roots and of the field. */
public final class Edge05GetTest {
    public static void main(String[] args) {
        Check.sentence("becomes what a field has: a number", Edge05GetTest::number);
        Check.sentence("becomes what a field has: a reference", Edge05GetTest::reference);
        Check.sentence("or itself", Edge05GetTest::itself);
        Check.sentence("the first and the last root, both ways", Edge05GetTest::firstAndLastRoot);
        Check.sentence("the first and the last field", Edge05GetTest::firstAndLastField);
        Check.sentence("no such first root", Edge05GetTest::noSuchFirstRoot);
        Check.sentence("no such second root", Edge05GetTest::noSuchSecondRoot);
        Check.sentence("that one refers to no object", Edge05GetTest::noObject);
        Check.sentence("it has no such field", Edge05GetTest::noSuchField);
        Check.sentence("while a collection runs: the original", Edge05GetTest::original);
        Check.end();
    }

    private static void number() {
        ReplicaHeap heap = new ReplicaHeap(64, 1);
        heap.alloc(0, 1);
        for (int number : new int[] {0, -1, Integer.MAX_VALUE, Integer.MIN_VALUE}) {
            heap.alloc(1, 1);
            heap.putNumber(0, 0, number);
            heap.get(1, 0, 0);
            Check.due("look(1, 0)", heap.look(1, 0), 0);
            Check.due("look(1, 1)", heap.look(1, 1), number);
        }
    }

    private static void reference() {
        ReplicaHeap heap = new ReplicaHeap(64, 1);
        heap.alloc(0, 2);
        heap.alloc(2, 8);
        heap.put(0, 1, 2);
        heap.number(2, 5);
        heap.get(2, 0, 1);
        Check.due("look(2, 0)", heap.look(2, 0), 1);
        Check.due("look(2, 1)", heap.look(2, 1), 3);
        Check.due("look(2, 2)", heap.look(2, 2), 8);
        Check.due("the field still has it", heap.field(0, 1, 1), 3);
    }

    private static void itself() {
        ReplicaHeap heap = new ReplicaHeap(64, 1);
        heap.alloc(1, 3);
        heap.alloc(0, 2);
        heap.put(0, 1, 1);
        heap.get(0, 0, 1);
        Check.due("look(0, 1)", heap.look(0, 1), 0);
        Check.due("look(0, 2)", heap.look(0, 2), 3);
        heap.get(0, 0, 0);
        Check.due("look(0, 0)", heap.look(0, 0), 0);
    }

    private static void firstAndLastRoot() {
        ReplicaHeap heap = new ReplicaHeap(64, 1);
        heap.alloc(0, 1);
        heap.putNumber(0, 0, 7);
        heap.get(15, 0, 0);
        Check.due("look(15, 1)", heap.look(15, 1), 7);
        heap.alloc(15, 1);
        heap.putNumber(15, 0, 8);
        heap.get(0, 15, 0);
        Check.due("look(0, 0)", heap.look(0, 0), 0);
        Check.due("look(0, 1)", heap.look(0, 1), 8);
    }

    private static void firstAndLastField() {
        for (int fields = 1; fields <= 8; fields++) {
            ReplicaHeap heap = new ReplicaHeap(64, 1);
            heap.alloc(2, 1);
            heap.alloc(0, fields);
            heap.alloc(3, 1);
            for (int field = 0; field < fields; field++) {
                heap.putNumber(0, field, 10 + field);
            }
            heap.get(1, 0, 0);
            Check.due("the first", heap.look(1, 1), 10);
            heap.get(1, 0, fields - 1);
            Check.due("the last", heap.look(1, 1), 10 + fields - 1);
        }
    }

    private static void noSuchFirstRoot() {
        ReplicaHeap heap = Heaps.running();
        Check.eachOutside(0, 15, into ->
            Check.refused("get(" + into + ", 0, 0)", heap, Check.IAE, () -> heap.get(into, 0, 0)));
    }

    private static void noSuchSecondRoot() {
        ReplicaHeap heap = Heaps.running();
        Check.eachOutside(0, 15, root ->
            Check.refused("get(0, " + root + ", 0)", heap, Check.IAE, () -> heap.get(0, root, 0)));
    }

    private static void noObject() {
        ReplicaHeap heap = Heaps.running();
        Check.refused("get(0, 2, 0)", heap, Check.ISE, () -> heap.get(0, 2, 0));
        Check.refused("get(2, 2, 0)", heap, Check.ISE, () -> heap.get(2, 2, 0));
        Check.refused("get(0, 3, 0)", heap, Check.ISE, () -> heap.get(0, 3, 0));
        heap.number(2, Integer.MAX_VALUE);
        Check.refused("get(0, 2, 0), no place at all", heap, Check.ISE, () -> heap.get(0, 2, 0));
        ReplicaHeap empty = new ReplicaHeap(16, 1);
        Check.refused("get(0, 0, 0), new", empty, Check.ISE, () -> empty.get(0, 0, 0));
    }

    private static void noSuchField() {
        ReplicaHeap heap = Heaps.running();
        int[][] rootsAndFields = {{0, 1}, {1, 8}, {15, 2}};
        for (int[] row : rootsAndFields) {
            Check.eachOutside(0, row[1] - 1, field ->
                Check.refused("get(3, " + row[0] + ", " + field + ")", heap, Check.ISE,
                    () -> heap.get(3, row[0], field)));
        }
    }

    private static void original() {
        ReplicaHeap heap = new ReplicaHeap(64, 1);
        heap.alloc(2, 3);
        heap.alloc(0, 1);
        heap.put(0, 0, 2);
        heap.number(2, 0);
        heap.collect(2 + 6);
        Check.due("the copy refers to the replica", heap.cell(1, 1, 1), 2);
        heap.get(2, 0, 0);
        Check.due("look(2, 1)", heap.look(2, 1), 0);
        Check.due("look(2, 2)", heap.look(2, 2), 3);
        Check.due("look(2, 3)", heap.look(2, 3), 2);
    }
}
