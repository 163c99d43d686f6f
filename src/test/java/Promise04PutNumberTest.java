/** Promise 4: a field becomes a number; while a collection runs it is logged and pays for work. */
public final class Promise04PutNumberTest {
    public static void main(String[] args) {
        putsNumbers();
        logsAndWorks();
        changesWhatWasAReference();
        refusesWrongInputs();
        Check.end();
    }

    private static void putsNumbers() {
        ReplicaHeap heap = new ReplicaHeap(64, 4);
        heap.alloc(3, 8);
        int[] numbers = {0, 1, -1, 400, Integer.MAX_VALUE, Integer.MIN_VALUE, 16, 7};
        for (int field = 0; field < 8; field++) {
            heap.putNumber(3, field, numbers[field]);
        }
        for (int field = 0; field < 8; field++) {
            Check.due("field(3, " + field + ", 0)", heap.field(3, field, 0), 0);
            Check.due("field(3, " + field + ", 1)", heap.field(3, field, 1), numbers[field]);
        }
        Check.counts("no collection: no log, no work", heap, 0, 0, 9, 0, 0, 0, 0, 0, 0, 0, 0, 1, 64);
    }

    private static void logsAndWorks() {
        ReplicaHeap heap = new ReplicaHeap(64, 2);
        heap.alloc(0, 3);
        heap.collect(3);
        heap.putNumber(0, 2, 8);
        Check.counts("1 to take, 1 to scan", heap, 0, 1, 4, 4, 1, 1, 1, 0, 0, 6, 4, 1, 64);
        Check.due("the copy has it", heap.cell(1, 3, 1), 8);
        // The same number again: an entry all the same.
        heap.putNumber(0, 2, 8);
        Check.counts("again", heap, 0, 1, 4, 4, 2, 2, 2, 0, 0, 8, 4, 1, 64);
        heap.putNumber(0, 0, 1);
        heap.putNumber(0, 0, 3);
        Check.counts("all scanned", heap, 0, 1, 4, 4, 4, 4, 4, 0, 0, 12, 4, 1, 64);
        // 1 to take, and the flip.
        heap.putNumber(0, 0, 2);
        Check.counts("flipped", heap, 1, 0, 4, 0, 0, 0, 0, 1, 0, 29, 17, 1, 64);
        Check.due("field(0, 0, 1)", heap.field(0, 0, 1), 2);
        Check.due("field(0, 2, 1)", heap.field(0, 2, 1), 8);
    }

    private static void changesWhatWasAReference() {
        ReplicaHeap heap = new ReplicaHeap(64, 1);
        heap.alloc(0, 1);
        heap.alloc(1, 1);
        heap.put(0, 0, 1);
        heap.number(1, 0);
        heap.collect(1);
        heap.putNumber(0, 0, 4);
        heap.collect(-1);
        // The second object was only reached by that field, ahead of its scan: it is gone.
        Check.due("used", heap.count(2), 2);
        Check.due("field(0, 0, 0)", heap.field(0, 0, 0), 0);
        Check.due("field(0, 0, 1)", heap.field(0, 0, 1), 4);
    }

    private static void refusesWrongInputs() {
        ReplicaHeap heap = new ReplicaHeap(64, 1);
        heap.alloc(0, 2);
        heap.collect(1);
        int[][] wrong = {
            {-1, 0, Check.IAE}, {16, 0, Check.IAE}, {16, 9, Check.IAE},
            {Integer.MAX_VALUE, 0, Check.IAE}, {Integer.MIN_VALUE, 0, Check.IAE},
            {1, 0, Check.ISE}, {15, 0, Check.ISE}, {0, 2, Check.ISE}, {0, -1, Check.ISE},
            {0, Integer.MAX_VALUE, Check.ISE}, {0, Integer.MIN_VALUE, Check.ISE}
        };
        for (int[] row : wrong) {
            Check.refused("putNumber(" + row[0] + ", " + row[1] + ", 5)", heap, row[2],
                () -> heap.putNumber(row[0], row[1], 5));
        }
    }
}
