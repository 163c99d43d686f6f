/** "Terms": allocation: cells that are just left, just not left, pauses, failure, work and begin. */
public final class EdgeAllocationTest {
    public static void main(String[] args) {
        Check.sentence("n + 1 cells are just left", EdgeAllocationTest::justLeft);
        Check.sentence("n + 1 cells are just left, none running", EdgeAllocationTest::justLeftAtRest);
        Check.sentence("one cell is not left", EdgeAllocationTest::oneCellNotLeft);
        Check.sentence("no cell is left", EdgeAllocationTest::noCellLeft);
        Check.sentence("a running collection is finished: one pause", EdgeAllocationTest::finishesTheRunning);
        Check.sentence("not left then: one begins and is finished, too", EdgeAllocationTest::anotherOne);
        Check.sentence("none was running: one begins and is finished", EdgeAllocationTest::noneWasRunning);
        Check.sentence("none was running and not left then: it fails", EdgeAllocationTest::failsAtRest);
        Check.sentence("it fails: nothing is laid, none begins", EdgeAllocationTest::failsAndLaysNothing);
        layingSentences();
        workSentences();
        Check.end();
    }

    private static void layingSentences() {
        Check.sentence("laid behind what is used, behind a pause too", EdgeAllocationTest::laidBehindWhatIsUsed);
        Check.sentence("all fields 0, over used cells too", EdgeAllocationTest::allFieldsZero);
        Check.sentence("without replica, over a header that had one too", EdgeAllocationTest::withoutReplica);
    }

    private static void workSentences() {
        Check.sentence("works quantum * (n + 1): the least", EdgeAllocationTest::leastWork);
        Check.sentence("works quantum * (n + 1): the most", EdgeAllocationTest::mostWork);
        Check.sentence("works quantum * (n + 1): any", EdgeAllocationTest::anyWork);
        Check.sentence("running ahead of that: what begins does not work", EdgeAllocationTest::beginsWithoutWork);
        Check.sentence("and is still: what a pause has ended does not work", EdgeAllocationTest::noWorkBehindAPause);
        Check.sentence("else one begins: behind a pause, beyond half", EdgeAllocationTest::beginsBehindAPause);
        Check.sentence("if it is to: not behind a pause, at half", EdgeAllocationTest::noneBehindAPauseAtHalf);
        Check.sentence("else: none begins where it worked, even to the flip", EdgeAllocationTest::noneBehindWork);
        Check.sentence("the new object goes over by its own work", EdgeAllocationTest::newObjectGoesOver);
    }

    private static void justLeft() {
        ReplicaHeap heap = new ReplicaHeap(16, 1);
        heap.alloc(0, 8);
        Check.due("alloc(1, 6)", heap.alloc(1, 6), true);
        Check.counts("no pause", heap, 0, 1, 16, 9, 0, 0, 0, 0, 0, 9, 9, 2, 16);
        Check.due("look(1, 1)", heap.look(1, 1), 9);
    }

    private static void justLeftAtRest() {
        ReplicaHeap heap = new ReplicaHeap(16, 1);
        heap.alloc(0, 8);
        heap.collect(-1);
        Check.due("alloc(1, 6)", heap.alloc(1, 6), true);
        Check.counts("no pause", heap, 1, 1, 16, 0, 0, 0, 0, 1, 0, 34, 34, 2, 16);
    }

    private static void oneCellNotLeft() {
        ReplicaHeap heap = new ReplicaHeap(16, 1);
        heap.alloc(0, 8);
        heap.number(0, 0);
        Check.due("alloc(1, 7)", heap.alloc(1, 7), true);
        Check.counts("a pause", heap, 1, 0, 8, 0, 0, 0, 0, 1, 1, 16, 16, 2, 16);
    }

    private static void noCellLeft() {
        ReplicaHeap heap = Heaps.full(1);
        Check.due("alloc(2, 1)", heap.alloc(2, 1), false);
        Check.counts("two pauses", heap, 0, 0, 16, 0, 0, 0, 0, 2, 2, 96, 96, 2, 16);
    }

    private static void finishesTheRunning() {
        ReplicaHeap heap = Heaps.full(1);
        heap.number(1, 0);
        Check.due("alloc(1, 7)", heap.alloc(1, 7), true);
        Check.counts("one pause", heap, 1, 1, 16, 0, 0, 0, 0, 1, 1, 32, 32, 3, 16);
    }

    private static void anotherOne() {
        ReplicaHeap heap = Heaps.full(1);
        heap.collect(1);
        Check.due("root 0's object is copied", heap.look(0, 3), 0);
        heap.number(0, 0);
        Check.due("alloc(2, 7)", heap.alloc(2, 7), true);
        // What died behind its copy is kept by the first and freed by the second: 40 and 32 units.
        Check.counts("two pauses", heap, 0, 1, 16, 0, 0, 0, 0, 2, 2, 80, 72, 3, 16);
        Check.due("look(1, 1)", heap.look(1, 1), 0);
        Check.due("look(2, 1)", heap.look(2, 1), 8);
    }

    private static void noneWasRunning() {
        ReplicaHeap heap = Heaps.fullAtRest(1);
        heap.number(1, 0);
        Check.due("alloc(1, 7)", heap.alloc(1, 7), true);
        Check.counts("one pause", heap, 0, 1, 16, 0, 0, 0, 0, 2, 1, 80, 48, 3, 16);
    }

    private static void failsAtRest() {
        ReplicaHeap heap = Heaps.fullAtRest(1);
        Check.due("alloc(2, 1)", heap.alloc(2, 1), false);
        Check.counts("one pause", heap, 0, 0, 16, 0, 0, 0, 0, 2, 1, 96, 48, 2, 16);
        Check.due("alloc(2, 8)", heap.alloc(2, 8), false);
        Check.counts("one more", heap, 1, 0, 16, 0, 0, 0, 0, 3, 2, 144, 48, 2, 16);
    }

    private static void failsAndLaysNothing() {
        // One cell is left of 16, the object would need two.
        ReplicaHeap heap = new ReplicaHeap(16, 1);
        heap.alloc(0, 7);
        heap.alloc(1, 6);
        Check.due("alloc(2, 1)", heap.alloc(2, 1), false);
        Check.counts("15 of 16, at rest", heap, 0, 0, 15, 0, 0, 0, 0, 2, 2, 92, 92, 2, 16);
        Check.refused("cell(0, 15, 0)", heap, Check.IOOBE, () -> heap.cell(0, 15, 0));
        Check.due("look(2, 0)", heap.look(2, 0), 0);
    }

    private static void laidBehindWhatIsUsed() {
        ReplicaHeap heap = Heaps.full(1);
        heap.number(0, 0);
        heap.alloc(0, 3);
        Check.due("the one that lives", heap.look(1, 1), 0);
        Check.due("the new one", heap.look(0, 1), 8);
        Check.due("count(2)", heap.count(2), 12);
    }

    private static void allFieldsZero() {
        ReplicaHeap heap = new ReplicaHeap(16, 1);
        heap.alloc(0, 7);
        for (int field = 0; field < 7; field++) {
            if (field % 2 == 0) {
                heap.put(0, field, 0);
            } else {
                heap.putNumber(0, field, -field);
            }
        }
        heap.collect(-1);
        heap.number(0, 0);
        heap.collect(-1);
        Check.due("the first space again", heap.count(0), 0);
        heap.alloc(1, 6);
        heap.alloc(2, 8);
        for (int root = 1; root <= 2; root++) {
            for (int field = 0; field < heap.look(root, 2); field++) {
                Check.due("field(" + root + ", " + field + ", 0)", heap.field(root, field, 0), 0);
                Check.due("field(" + root + ", " + field + ", 1)", heap.field(root, field, 1), 0);
            }
        }
    }

    private static void withoutReplica() {
        ReplicaHeap heap = new ReplicaHeap(16, 1);
        heap.alloc(0, 1);
        heap.collect(-1);
        heap.number(0, 0);
        heap.collect(-1);
        heap.alloc(1, 1);
        Check.due("look(1, 1)", heap.look(1, 1), 0);
        Check.due("look(1, 3)", heap.look(1, 3), -1);
        Check.due("cell(0, 0, 2)", heap.cell(0, 0, 2), -1);
    }

    private static int unitsOf(ReplicaHeap heap, int root, int fields) {
        int before = heap.count(9);
        heap.alloc(root, fields);
        return heap.count(9) - before;
    }

    private static void leastWork() {
        Check.due("units", unitsOf(Heaps.scanning(1), 2, 1), 1 * (1 + 1));
    }

    private static void mostWork() {
        ReplicaHeap heap = Heaps.chain(64, 31);
        heap.collect(0);
        // 32 objects of 9 cells to copy and to scan: the last unit is the last step ahead of the flip.
        Check.due("units", unitsOf(heap, 1, 8), 64 * (8 + 1));
        Check.due("running", heap.count(1), 1);
        Check.due("scan", heap.count(4), 32 * 9);
        Check.due("collect(1)", heap.collect(1), 16);
    }

    private static void anyWork() {
        for (int fields = 1; fields <= 8; fields++) {
            for (int quantum = 1; quantum <= 8; quantum++) {
                Check.due("units", unitsOf(Heaps.scanning(quantum), 2, fields), quantum * (fields + 1));
            }
        }
    }

    private static void beginsWithoutWork() {
        ReplicaHeap heap = new ReplicaHeap(16, 64);
        heap.alloc(0, 8);
        Check.counts("begun", heap, 0, 1, 9, 0, 0, 0, 0, 0, 0, 0, 0, 1, 16);
    }

    private static void noWorkBehindAPause() {
        ReplicaHeap heap = Heaps.full(64);
        heap.number(1, 0);
        heap.alloc(1, 7);
        Check.counts("the pause alone", heap, 1, 1, 16, 0, 0, 0, 0, 1, 1, 32, 32, 3, 16);
    }

    private static void beginsBehindAPause() {
        ReplicaHeap heap = Heaps.full(1);
        heap.number(1, 0);
        heap.alloc(1, 1);
        Check.counts("10 of 16", heap, 1, 1, 10, 0, 0, 0, 0, 1, 1, 32, 32, 3, 16);
    }

    private static void noneBehindAPauseAtHalf() {
        ReplicaHeap heap = Heaps.full(1);
        heap.number(0, 0);
        heap.number(1, 0);
        heap.alloc(1, 7);
        Check.counts("8 of 16", heap, 1, 0, 8, 0, 0, 0, 0, 1, 1, 16, 16, 3, 16);
    }

    private static void noneBehindWork() {
        ReplicaHeap heap = new ReplicaHeap(16, 64);
        heap.alloc(0, 7);
        heap.alloc(1, 1);
        heap.alloc(2, 1);
        Check.counts("12 of 16 behind the flip", heap, 1, 0, 12, 0, 0, 0, 0, 1, 0, 40, 40, 3, 16);
        heap.alloc(3, 1);
        Check.counts("the next begins one", heap, 1, 1, 14, 0, 0, 0, 0, 1, 0, 40, 40, 4, 16);
    }

    private static void newObjectGoesOver() {
        ReplicaHeap heap = new ReplicaHeap(16, 64);
        heap.alloc(0, 8);
        heap.alloc(0, 2);
        Check.counts("the old one is gone", heap, 1, 0, 3, 0, 0, 0, 0, 1, 0, 22, 22, 2, 16);
        Check.due("look(0, 1)", heap.look(0, 1), 0);
        Check.due("look(0, 2)", heap.look(0, 2), 2);
    }
}
