/** Promise 3: a field becomes what a root has; while a collection runs it is logged and pays for work. */
public final class Promise03PutTest {
    public static void main(String[] args) {
        putsNumbersAndReferences();
        logsWhileACollectionRuns();
        appliesTheLogToTheCopy();
        bringsTheReferenceOverTheFlip();
        refusesWrongInputs();
        Check.end();
    }

    private static void putsNumbersAndReferences() {
        ReplicaHeap heap = new ReplicaHeap(64, 4);
        heap.alloc(0, 2);
        heap.alloc(1, 1);
        heap.number(2, -5);
        heap.put(0, 0, 1);
        heap.put(0, 1, 2);
        heap.put(1, 0, 1);
        Check.due("field(0, 0, 0)", heap.field(0, 0, 0), 1);
        Check.due("field(0, 0, 1)", heap.field(0, 0, 1), 3);
        Check.due("field(0, 1, 0)", heap.field(0, 1, 0), 0);
        Check.due("field(0, 1, 1)", heap.field(0, 1, 1), -5);
        Check.due("field(1, 0, 1), its own object", heap.field(1, 0, 1), 3);
        Check.counts("no collection: no log, no work", heap, 0, 0, 5, 0, 0, 0, 0, 0, 0, 0, 0, 2, 64);
    }

    private static void logsWhileACollectionRuns() {
        ReplicaHeap heap = new ReplicaHeap(64, 3);
        heap.alloc(0, 8);
        heap.alloc(1, 1);
        heap.collect(0);
        // The object has no replica yet: an entry all the same; 1 to take, 9 to copy.
        heap.put(0, 7, 1);
        Check.counts("first", heap, 0, 1, 11, 9, 0, 1, 1, 0, 0, 10, 10, 2, 64);
        Check.due("entry(0, 0)", heap.entry(0, 0), 0);
        Check.due("entry(0, 1)", heap.entry(0, 1), 7);
        Check.due("copied as it is", heap.cell(1, 8, 0), 1);
        // The same again is logged again: 1 to take and 2 to copy its object make 3.
        heap.put(0, 7, 1);
        Check.counts("second", heap, 0, 1, 11, 11, 0, 2, 2, 0, 0, 13, 10, 2, 64);
        Check.due("it refers to the replica", heap.cell(1, 8, 0), 2);
        Check.due("at its place", heap.cell(1, 8, 1), 9);
        Check.due("the original does not", heap.cell(0, 8, 0), 1);
    }

    private static void appliesTheLogToTheCopy() {
        ReplicaHeap heap = new ReplicaHeap(64, 1);
        heap.alloc(0, 2);
        heap.alloc(1, 2);
        heap.put(0, 0, 1);
        heap.collect(4);
        heap.collect(1);
        Check.due("scanned up to", heap.count(4), 2);
        Check.due("the copy's field", heap.cell(1, 1, 0), 2);
        heap.number(2, 12);
        heap.put(0, 0, 2);
        Check.due("the copy's field is a number", heap.cell(1, 1, 0), 0);
        Check.due("which", heap.cell(1, 1, 1), 12);
        heap.put(0, 0, 0);
        Check.due("the copy's field refers to itself", heap.cell(1, 1, 0), 2);
        Check.due("where", heap.cell(1, 1, 1), 0);
    }

    private static void bringsTheReferenceOverTheFlip() {
        ReplicaHeap heap = new ReplicaHeap(32, 1);
        heap.alloc(0, 1);
        heap.collect(2);
        heap.collect(2);
        Check.due("all scanned", heap.count(4), 2);
        heap.alloc(1, 3);
        heap.putNumber(1, 2, 31);
        heap.put(0, 0, 1);
        heap.number(1, 0);
        heap.collect(-1);
        Check.due("field(0, 0, 0)", heap.field(0, 0, 0), 1);
        heap.get(1, 0, 0);
        Check.due("look(1, 2)", heap.look(1, 2), 3);
        Check.due("field(1, 2, 1)", heap.field(1, 2, 1), 31);
    }

    private static void refusesWrongInputs() {
        ReplicaHeap heap = new ReplicaHeap(64, 1);
        heap.alloc(0, 2);
        heap.collect(1);
        int[][] wrong = {
            {-1, 0, 0, Check.IAE}, {16, 0, 0, Check.IAE}, {0, 0, -1, Check.IAE}, {0, 0, 16, Check.IAE},
            {0, 9, 16, Check.IAE}, {1, 0, 16, Check.IAE}, {Integer.MIN_VALUE, 0, Integer.MAX_VALUE, Check.IAE},
            {1, 0, 0, Check.ISE}, {0, 2, 0, Check.ISE}, {0, -1, 0, Check.ISE},
            {0, Integer.MAX_VALUE, 0, Check.ISE}, {0, Integer.MIN_VALUE, 0, Check.ISE}
        };
        for (int[] row : wrong) {
            Check.refused("put(" + row[0] + ", " + row[1] + ", " + row[2] + ")", heap, row[3],
                () -> heap.put(row[0], row[1], row[2]));
        }
    }
}
