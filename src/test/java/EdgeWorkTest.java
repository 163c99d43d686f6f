/** "Terms": to work for some units, to finish, and when a collection begins. */
public final class EdgeWorkTest {
    public static void main(String[] args) {
        Check.sentence("to work: not so many units were done yet: 0 units", EdgeWorkTest::noUnits);
        Check.sentence("to work: not so many units were done yet: to the very unit", EdgeWorkTest::veryUnit);
        Check.sentence("to work: its last step may do more", EdgeWorkTest::lastStepDoesMore);
        Check.sentence("to work: while a collection runs: none beyond the flip", EdgeWorkTest::noneBeyondTheFlip);
        Check.sentence("to work: the units of this work alone are counted", EdgeWorkTest::thisWorkAlone);
        Check.sentence("to finish: until the flip, from wherever it is", EdgeWorkTest::finishes);
        Check.sentence("begins: not at half of the cells", EdgeWorkTest::notAtHalf);
        Check.sentence("begins: at one more than half", EdgeWorkTest::oneMoreThanHalf);
        Check.sentence("begins: an odd number of cells has its half between two", EdgeWorkTest::oddCells);
        Check.sentence("begins: not if one is running", EdgeWorkTest::notIfOneIsRunning);
        Check.sentence("begins: behind an allocation alone", EdgeWorkTest::behindAnAllocationAlone);
        Check.sentence("begins: behind any allocation beyond half", EdgeWorkTest::behindAnyAllocation);
        Check.end();
    }

    private static void noUnits() {
        ReplicaHeap heap = Heaps.scanning(1);
        String before = Picture.of(heap);
        Check.due("collect(0)", heap.collect(0), 0);
        Check.unchanged("collect(0)", heap, before);
    }

    private static void veryUnit() {
        for (int units = 1; units <= 72; units++) {
            ReplicaHeap heap = Heaps.scanning(1);
            Check.due("collect(" + units + ")", heap.collect(units), units);
            Check.due("scan", heap.count(4), 9 + units);
            Check.due("running", heap.count(1), 1);
        }
    }

    private static void lastStepDoesMore() {
        int[][] unitsAndDue = {{1, 9}, {8, 9}, {9, 9}, {10, 10}, {18, 18}, {19, 34}, {33, 34}};
        for (int[] row : unitsAndDue) {
            ReplicaHeap heap = new ReplicaHeap(64, 1);
            heap.alloc(0, 8);
            Check.due("collect(" + row[0] + ")", heap.collect(row[0]), row[1]);
        }
    }

    private static void noneBeyondTheFlip() {
        for (int units : new int[] {35, 36, 1000, Integer.MAX_VALUE}) {
            ReplicaHeap heap = new ReplicaHeap(64, 1);
            heap.alloc(0, 8);
            Check.due("collect(" + units + ")", heap.collect(units), 34);
            Check.counts("flipped once", heap, 1, 0, 9, 0, 0, 0, 0, 1, 0, 34, 34, 1, 64);
        }
    }

    private static void thisWorkAlone() {
        ReplicaHeap heap = Heaps.scanning(2);
        Check.due("collect(3)", heap.collect(3), 3);
        Check.due("collect(3) again", heap.collect(3), 3);
        int before = heap.count(9);
        heap.putNumber(0, 0, 1);
        heap.alloc(2, 1);
        Check.due("a change and an allocation", heap.count(9) - before, 2 + 4);
    }

    private static void finishes() {
        int[][] doneAndLeft = {{0, 34}, {1, 25}, {10, 24}, {17, 17}, {18, 16}};
        for (int[] row : doneAndLeft) {
            ReplicaHeap heap = new ReplicaHeap(64, 1);
            heap.alloc(0, 8);
            heap.collect(row[0]);
            Check.due("collect(-1) behind " + row[0], heap.collect(-1), row[1]);
            Check.counts("finished", heap, 1, 0, 9, 0, 0, 0, 0, 1, 0, 34);
        }
        ReplicaHeap most = Heaps.chain(1, 44);
        Check.due("the most cells", most.collect(-1), 396 + 396 + 16);
    }

    private static void used(ReplicaHeap heap, int wanted) {
        while (wanted - heap.count(2) > 10) {
            heap.alloc(0, 7);
        }
        if (wanted - heap.count(2) > 9) {
            heap.alloc(0, 4);
        }
        heap.alloc(0, wanted - heap.count(2) - 1);
        Check.due("used", heap.count(2), wanted);
    }

    private static void running(int cells, int used, int want) {
        ReplicaHeap heap = new ReplicaHeap(cells, 1);
        used(heap, used);
        Check.due("running at " + used + " of " + cells, heap.count(1), want);
        Check.due("units at " + used + " of " + cells, heap.count(9), 0);
    }

    private static void notAtHalf() {
        for (int cells = 16; cells <= 400; cells += 2) {
            running(cells, cells / 2, 0);
        }
    }

    private static void oneMoreThanHalf() {
        for (int cells = 16; cells <= 400; cells += 2) {
            running(cells, cells / 2 + 1, 1);
        }
    }

    private static void oddCells() {
        for (int cells = 17; cells < 400; cells += 2) {
            running(cells, cells / 2, 0);
            running(cells, cells / 2 + 1, 1);
        }
    }

    private static void notIfOneIsRunning() {
        ReplicaHeap heap = new ReplicaHeap(16, 1);
        heap.alloc(0, 2);
        heap.collect(4);
        heap.putNumber(0, 0, 1);
        heap.alloc(1, 7);
        // 8 units of the one that was running: 2 to scan, 8 to copy.
        Check.counts("it goes on", heap, 0, 1, 11, 11, 3, 1, 1, 0, 0, 15, 10, 2, 16);
    }

    private static void behindAnAllocationAlone() {
        ReplicaHeap heap = Heaps.fullAtRest(1);
        heap.putNumber(0, 0, 1);
        heap.put(0, 1, 1);
        heap.get(2, 0, 1);
        heap.move(3, 2);
        heap.number(4, 1);
        heap.look(0, 0);
        Check.counts("none begins", heap, 1, 0, 16, 0, 0, 0, 0, 1, 0, 48, 48, 2, 16);
    }

    private static void behindAnyAllocation() {
        ReplicaHeap heap = new ReplicaHeap(16, 1);
        heap.alloc(0, 8);
        heap.collect(-1);
        Check.due("beyond half at rest", heap.count(1), 0);
        heap.alloc(1, 1);
        Check.counts("begun and not worked", heap, 1, 1, 11, 0, 0, 0, 0, 1, 0, 34, 34, 2, 16);
    }
}
