/** Promise 4: the bounds of root and field, and any number. */
public final class Edge04PutNumberTest {
    public static void main(String[] args) {
        Check.sentence("becomes a number: the least and the greatest", Edge04PutNumberTest::leastAndGreatest);
        Check.sentence("becomes a number: what was a reference", Edge04PutNumberTest::wasAReference);
        Check.sentence("the greatest numbers go over a flip", Edge04PutNumberTest::greatestGoOver);
        Check.sentence("the first and the last root", Edge04PutNumberTest::firstAndLastRoot);
        Check.sentence("the first and the last field, no other", Edge04PutNumberTest::firstAndLastField);
        Check.sentence("no such root", Edge04PutNumberTest::noSuchRoot);
        Check.sentence("it refers to no object", Edge04PutNumberTest::noObject);
        Check.sentence("that has no such field", Edge04PutNumberTest::noSuchField);
        Check.sentence("refused: no entry, no work", Edge04PutNumberTest::refusedWhileRunning);
        Check.end();
    }

    private static final int[] NUMBERS = {0, -1, 1, 400, Integer.MAX_VALUE, Integer.MIN_VALUE};

    private static void leastAndGreatest() {
        ReplicaHeap heap = new ReplicaHeap(64, 1);
        heap.alloc(0, 1);
        for (int number : NUMBERS) {
            heap.putNumber(0, 0, number);
            Check.due("field(0, 0, 0)", heap.field(0, 0, 0), 0);
            Check.due("field(0, 0, 1)", heap.field(0, 0, 1), number);
        }
    }

    private static void wasAReference() {
        ReplicaHeap heap = new ReplicaHeap(64, 1);
        heap.alloc(0, 1);
        heap.put(0, 0, 0);
        heap.putNumber(0, 0, 0);
        Check.due("field(0, 0, 0)", heap.field(0, 0, 0), 0);
        Check.due("look(0, 0)", heap.look(0, 0), 1);
    }

    private static void greatestGoOver() {
        ReplicaHeap heap = new ReplicaHeap(64, 1);
        heap.alloc(0, NUMBERS.length);
        for (int field = 0; field < NUMBERS.length; field++) {
            heap.putNumber(0, field, NUMBERS[field]);
        }
        heap.collect(-1);
        for (int field = 0; field < NUMBERS.length; field++) {
            Check.due("field(0, " + field + ", 0)", heap.field(0, field, 0), 0);
            Check.due("field(0, " + field + ", 1)", heap.field(0, field, 1), NUMBERS[field]);
        }
    }

    private static void firstAndLastRoot() {
        ReplicaHeap heap = new ReplicaHeap(64, 1);
        heap.alloc(0, 1);
        heap.alloc(15, 1);
        heap.putNumber(0, 0, 5);
        heap.putNumber(15, 0, 6);
        Check.due("field(0, 0, 1)", heap.field(0, 0, 1), 5);
        Check.due("field(15, 0, 1)", heap.field(15, 0, 1), 6);
    }

    private static void firstAndLastField() {
        for (int fields = 1; fields <= 8; fields++) {
            ReplicaHeap heap = new ReplicaHeap(64, 1);
            heap.alloc(2, 1);
            heap.alloc(0, fields);
            heap.alloc(3, 1);
            heap.putNumber(0, 0, 11);
            heap.putNumber(0, fields - 1, 77);
            Check.due("the last field", heap.field(0, fields - 1, 1), 77);
            Check.due("the first field", heap.field(0, 0, 1), fields == 1 ? 77 : 11);
            for (int field = 1; field < fields - 1; field++) {
                Check.due("a field between", heap.field(0, field, 1), 0);
            }
            Check.due("fields", heap.look(0, 2), fields);
            Check.due("the object ahead", heap.field(2, 0, 1), 0);
            Check.due("the object behind", heap.look(3, 2), 1);
        }
    }

    private static void noSuchRoot() {
        ReplicaHeap heap = Heaps.running();
        Check.eachOutside(0, 15, root ->
            Check.refused("putNumber(" + root + ", 0, 1)", heap, Check.IAE, () -> heap.putNumber(root, 0, 1)));
    }

    private static void noObject() {
        ReplicaHeap heap = Heaps.running();
        Check.refused("putNumber(2, 0, 1)", heap, Check.ISE, () -> heap.putNumber(2, 0, 1));
        Check.refused("putNumber(3, 0, 1)", heap, Check.ISE, () -> heap.putNumber(3, 0, 1));
        heap.number(2, Integer.MIN_VALUE);
        Check.refused("putNumber(2, 0, 1), no place at all", heap, Check.ISE, () -> heap.putNumber(2, 0, 1));
        ReplicaHeap empty = new ReplicaHeap(16, 1);
        Check.refused("putNumber(0, 0, 1), new", empty, Check.ISE, () -> empty.putNumber(0, 0, 1));
    }

    private static void noSuchField() {
        ReplicaHeap heap = Heaps.running();
        int[][] rootsAndFields = {{0, 1}, {1, 8}, {15, 2}};
        for (int[] row : rootsAndFields) {
            Check.eachOutside(0, row[1] - 1, field ->
                Check.refused("putNumber(" + row[0] + ", " + field + ", 1)", heap, Check.ISE,
                    () -> heap.putNumber(row[0], field, 1)));
        }
    }

    private static void refusedWhileRunning() {
        ReplicaHeap heap = Heaps.scanning(64);
        Check.refused("putNumber(0, 8, 1)", heap, Check.ISE, () -> heap.putNumber(0, 8, 1));
        Check.refused("putNumber(2, 0, 1)", heap, Check.ISE, () -> heap.putNumber(2, 0, 1));
        Check.refused("putNumber(16, 0, 1)", heap, Check.IAE, () -> heap.putNumber(16, 0, 1));
        Check.due("entries", heap.count(5), 0);
    }
}
