/** "What it is": an object is used for at most 512 calls, all of which are answered; no heap here has one more. */
public final class EdgeUseTest {
    private static final int LAST = 509;

    public static void main(String[] args) {
        Check.sentence("512 calls: the longest log is kept whole", EdgeUseTest::keepsTheLongestLog);
        Check.sentence("512 calls: the longest collection can be finished", EdgeUseTest::finishesTheLongestCollection);
        Check.sentence("512 calls: as many allocations", EdgeUseTest::makesAsManyObjects);
        Check.sentence("512 calls: as many pauses", EdgeUseTest::pausesAsOften);
        Check.sentence("512 calls: as many flips", EdgeUseTest::flipsAsOften);
        Check.end();
    }

    /** One call begins the collection, 510 changes take their own entry alone: one call is left. */
    private static ReplicaHeap loggedToTheEnd() {
        ReplicaHeap heap = new ReplicaHeap(16, 1);
        heap.alloc(0, 8);
        for (int i = 0; i <= LAST; i++) {
            heap.putNumber(0, i % 8, i);
        }
        return heap;
    }

    private static void keepsTheLongestLog() {
        Check.due("count(5)", loggedToTheEnd().count(5), LAST + 1);
        Check.due("count(6)", loggedToTheEnd().count(6), LAST + 1);
        Check.due("count(9)", loggedToTheEnd().count(9), LAST + 1);
        for (int i = 0; i <= LAST; i++) {
            Check.due("entry(" + i + ", 0)", loggedToTheEnd().entry(i, 0), 0);
            Check.due("entry(" + i + ", 1)", loggedToTheEnd().entry(i, 1), i % 8);
        }
        Check.threw("entry(510, 0)", Check.IOOBE, () -> loggedToTheEnd().entry(LAST + 1, 0));
    }

    private static void finishesTheLongestCollection() {
        Check.due("collect(-1)", loggedToTheEnd().collect(-1), 9 + 9 + 16);
        Check.due("field(0, 5, 1)", loggedToTheEnd().field(0, LAST % 8, 1), LAST);
        Check.due("alloc(1, 8)", loggedToTheEnd().alloc(1, 8), false);
    }

    private static void makesAsManyObjects() {
        ReplicaHeap heap = new ReplicaHeap(400, 1);
        for (int i = 0; i < 511; i++) {
            Check.due("alloc " + i, heap.alloc(i % 16, 8), true);
        }
        Check.due("count(11)", heap.count(11), 511);
    }

    private static ReplicaHeap pausedToTheEnd() {
        ReplicaHeap heap = new ReplicaHeap(16, 1);
        heap.alloc(0, 7);
        heap.alloc(1, 7);
        for (int i = 0; i < 509; i++) {
            Check.due("alloc " + i, heap.alloc(2, 1), false);
        }
        return heap;
    }

    private static void pausesAsOften() {
        // The first one finishes the running collection and makes another.
        Check.due("count(8)", pausedToTheEnd().count(8), 510);
        Check.due("count(9)", pausedToTheEnd().count(9), 510 * 48);
        Check.due("alloc(2, 1)", pausedToTheEnd().alloc(2, 1), false);
        Check.due("look(1, 1)", pausedToTheEnd().look(1, 1), 8);
    }

    private static void flipsAsOften() {
        ReplicaHeap heap = new ReplicaHeap(16, 1);
        for (int i = 0; i < 511; i++) {
            Check.due("collect " + i, heap.collect(-1), 16);
        }
        Check.due("count(7)", heap.count(7), 511);
    }
}
