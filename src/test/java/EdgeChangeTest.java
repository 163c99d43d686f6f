/** "Terms": a change: when it is logged, and how much it works. */
public final class EdgeChangeTest {
    public static void main(String[] args) {
        Check.sentence("while a collection runs: else no entry, no work", EdgeChangeTest::atRest);
        Check.sentence("whether the object has a replica: with one", EdgeChangeTest::withReplica);
        Check.sentence("or not: without one", EdgeChangeTest::withoutReplica);
        Check.sentence("whatever it was before: the same again", EdgeChangeTest::theSameAgain);
        Check.sentence("works quantum units: the least", EdgeChangeTest::leastWork);
        Check.sentence("works quantum units: the most", EdgeChangeTest::mostWork);
        Check.sentence("works quantum units: any", EdgeChangeTest::anyWork);
        Check.sentence("works quantum units: the last step may do more", EdgeChangeTest::lastStepDoesMore);
        Check.sentence("works to the flip: the log is empty then", EdgeChangeTest::worksToTheFlip);
        Check.sentence("then it works: with what was changed", EdgeChangeTest::worksWithTheChange);
        Check.sentence("get, move and number are no changes", EdgeChangeTest::noChanges);
        Check.end();
    }

    private static void atRest() {
        ReplicaHeap heap = new ReplicaHeap(64, 64);
        heap.alloc(0, 2);
        heap.put(0, 0, 0);
        heap.putNumber(0, 1, 4);
        Check.counts("never begun", heap, 0, 0, 3, 0, 0, 0, 0, 0, 0, 0, 0, 1, 64);
        heap.collect(-1);
        heap.put(0, 1, 0);
        heap.putNumber(0, 0, 4);
        Check.counts("behind a flip", heap, 1, 0, 3, 0, 0, 0, 0, 1, 0, 22, 22, 1, 64);
    }

    private static void withReplica() {
        ReplicaHeap heap = new ReplicaHeap(64, 1);
        heap.alloc(1, 1);
        heap.alloc(0, 2);
        heap.collect(1);
        heap.put(0, 1, 0);
        heap.putNumber(0, 0, 4);
        Check.due("entries", heap.count(5), 2);
        Check.due("entry(0, 0)", heap.entry(0, 0), 2);
        Check.due("entry(0, 1)", heap.entry(0, 1), 1);
        Check.due("entry(1, 0)", heap.entry(1, 0), 2);
        Check.due("entry(1, 1)", heap.entry(1, 1), 0);
        Check.due("units", heap.count(9), 3 + 2);
    }

    private static void withoutReplica() {
        ReplicaHeap heap = new ReplicaHeap(64, 1);
        heap.alloc(1, 1);
        heap.alloc(0, 2);
        heap.collect(0);
        heap.put(0, 1, 0);
        heap.putNumber(0, 0, 4);
        Check.counts("two entries", heap, 0, 1, 5, 0, 0, 2, 2, 0, 0, 2, 1, 2, 64);
        Check.due("entry(0, 0)", heap.entry(0, 0), 2);
        Check.due("entry(1, 1)", heap.entry(1, 1), 0);
    }

    private static void theSameAgain() {
        ReplicaHeap heap = new ReplicaHeap(64, 1);
        heap.alloc(0, 2);
        heap.put(0, 1, 0);
        heap.collect(0);
        heap.putNumber(0, 0, 0);
        heap.put(0, 1, 0);
        heap.put(0, 1, 0);
        Check.counts("three entries", heap, 0, 1, 3, 0, 0, 3, 3, 0, 0, 3, 1, 1, 64);
    }

    private static void unitsDue(int quantum) {
        ReplicaHeap heap = Heaps.scanning(quantum);
        int before = heap.count(9);
        heap.putNumber(0, 7, 1);
        Check.due("units of putNumber, quantum " + quantum, heap.count(9) - before, quantum);
        ReplicaHeap another = Heaps.scanning(quantum);
        another.put(0, 7, 0);
        Check.due("units of put, quantum " + quantum, another.count(9) - before, quantum);
        Check.due("scan", another.count(4), 9 + quantum - 1);
    }

    private static void leastWork() {
        unitsDue(1);
    }

    private static void mostWork() {
        unitsDue(64);
    }

    private static void anyWork() {
        for (int quantum = 2; quantum < 64; quantum++) {
            unitsDue(quantum);
        }
    }

    private static void lastStepDoesMore() {
        ReplicaHeap heap = new ReplicaHeap(64, 1);
        heap.alloc(0, 1);
        heap.alloc(1, 8);
        heap.collect(1);
        heap.put(0, 0, 1);
        Check.due("1 to take, 9 to copy", heap.count(9), 2 + 10);
        Check.due("count(10)", heap.count(10), 10);
    }

    private static void worksToTheFlip() {
        ReplicaHeap heap = new ReplicaHeap(64, 64);
        heap.alloc(0, 1);
        heap.collect(0);
        heap.putNumber(0, 0, 3);
        Check.counts("flipped", heap, 1, 0, 2, 0, 0, 0, 0, 1, 0, 21, 21, 1, 64);
        Check.refused("entry(0, 0)", heap, Check.IOOBE, () -> heap.entry(0, 0));
        Check.due("field(0, 0, 1)", heap.field(0, 0, 1), 3);
    }

    private static void worksWithTheChange() {
        ReplicaHeap heap = new ReplicaHeap(64, 64);
        heap.alloc(2, 1);
        heap.alloc(0, 1);
        heap.number(2, 0);
        heap.collect(0);
        heap.put(0, 0, 0);
        Check.counts("flipped", heap, 1, 0, 2, 0, 0, 0, 0, 1, 0, 21, 21, 2, 64);
        Check.due("field(0, 0, 0)", heap.field(0, 0, 0), 1);
        Check.due("field(0, 0, 1)", heap.field(0, 0, 1), 0);
    }

    private static void noChanges() {
        ReplicaHeap heap = Heaps.scanning(64);
        int units = heap.count(9);
        heap.get(3, 0, 0);
        heap.move(4, 0);
        heap.number(5, 1);
        Check.due("entries", heap.count(5), 0);
        Check.due("units", heap.count(9), units);
        Check.due("running", heap.count(1), 1);
    }
}
