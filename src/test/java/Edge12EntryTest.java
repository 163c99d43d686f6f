/** Promise 12: the bounds of i and what, an empty log, a long one. */
public final class Edge12EntryTest {
    public static void main(String[] args) {
        Check.sentence("what 0, 1: the object's place, the field", Edge12EntryTest::placeAndField);
        Check.sentence("entry i: what is taken stays", Edge12EntryTest::takenStays);
        Check.sentence("none such: an empty log, never begun", Edge12EntryTest::neverBegun);
        Check.sentence("none such: an empty log, begun", Edge12EntryTest::justBegun);
        Check.sentence("none such: behind the flip", Edge12EntryTest::behindTheFlip);
        Check.sentence("none such: behind a pause", Edge12EntryTest::behindAPause);
        Check.sentence("none such: ahead of the first, beyond the last", Edge12EntryTest::beyond);
        Check.sentence("none such: no such what", Edge12EntryTest::noSuchWhat);
        Check.end();
    }

    private static void refused(ReplicaHeap heap, int i) {
        for (int what = 0; what < 2; what++) {
            int asked = what;
            Check.refused("entry(" + i + ", " + what + ")", heap, Check.IOOBE, () -> heap.entry(i, asked));
        }
    }

    private static void placeAndField() {
        ReplicaHeap heap = new ReplicaHeap(64, 1);
        heap.alloc(0, 8);
        heap.alloc(15, 8);
        heap.collect(0);
        int[][] rootsAndFields = {{0, 0}, {0, 7}, {15, 0}, {15, 7}, {15, 7}};
        for (int[] row : rootsAndFields) {
            heap.putNumber(row[0], row[1], 1);
        }
        for (int i = 0; i < 5; i++) {
            Check.due("entry(" + i + ", 0)", heap.entry(i, 0), rootsAndFields[i][0] == 0 ? 0 : 9);
            Check.due("entry(" + i + ", 1)", heap.entry(i, 1), rootsAndFields[i][1]);
        }
    }

    private static void takenStays() {
        ReplicaHeap heap = Heaps.scanning(1);
        heap.putNumber(0, 3, 1);
        heap.collect(72);
        Check.due("taken", heap.count(6), 1);
        Check.due("entry(0, 0)", heap.entry(0, 0), 0);
        Check.due("entry(0, 1)", heap.entry(0, 1), 3);
        // The place is the one of the current space, though the object has a replica elsewhere.
        heap.putNumber(1, 2, 1);
        Check.due("entry(1, 0)", heap.entry(1, 0), 72);
        Check.due("entry(1, 1)", heap.entry(1, 1), 2);
    }

    private static void neverBegun() {
        ReplicaHeap heap = new ReplicaHeap(64, 1);
        refused(heap, 0);
        heap.alloc(0, 2);
        heap.putNumber(0, 0, 1);
        refused(heap, 0);
    }

    private static void justBegun() {
        ReplicaHeap heap = new ReplicaHeap(64, 1);
        heap.alloc(0, 2);
        heap.putNumber(0, 0, 1);
        heap.collect(0);
        refused(heap, 0);
        heap.collect(3);
        refused(heap, 0);
    }

    private static void behindTheFlip() {
        ReplicaHeap heap = Heaps.running();
        heap.collect(-1);
        refused(heap, 0);
        refused(heap, 1);
        heap.collect(0);
        refused(heap, 0);
        heap.putNumber(15, 0, 1);
        Check.due("the next one's first", heap.entry(0, 1), 0);
        refused(heap, 1);
    }

    private static void behindAPause() {
        ReplicaHeap heap = Heaps.full(1);
        heap.putNumber(0, 0, 1);
        Check.due("entries", heap.count(5), 1);
        heap.number(1, 0);
        heap.alloc(1, 7);
        Check.due("the next is running", heap.count(1), 1);
        refused(heap, 0);
    }

    private static void beyond() {
        ReplicaHeap heap = Heaps.running();
        Check.eachOutside(0, 1, i -> refused(heap, i));
        refused(heap, 511);
        refused(heap, 512);
    }

    private static void noSuchWhat() {
        ReplicaHeap heap = Heaps.running();
        for (int i = 0; i < 2; i++) {
            int asked = i;
            Check.eachOutside(0, 1, what ->
                Check.refused("entry(" + asked + ", " + what + ")", heap, Check.IOOBE, () -> heap.entry(asked, what)));
        }
    }
}
