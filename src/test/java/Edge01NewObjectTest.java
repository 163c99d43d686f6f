/** Promise 1: the bounds of cells and quantum. */
public final class Edge01NewObjectTest {
    public static void main(String[] args) {
        Check.sentence("cells 16 .. 400: within", Edge01NewObjectTest::cellsWithin);
        Check.sentence("cells else 64: too small", () -> cellsOf(64, 15, 14, 1, 0, -1, -16, Integer.MIN_VALUE));
        Check.sentence("cells else 64: too large", () -> cellsOf(64, 401, 402, 512, 1000, Integer.MAX_VALUE));
        Check.sentence("quantum 1 .. 64: within", Edge01NewObjectTest::quantumWithin);
        Check.sentence("quantum else 4: too small", () -> quantumOf(4, 0, -1, -4, -64, Integer.MIN_VALUE));
        Check.sentence("quantum else 4: too large", () -> quantumOf(4, 65, 66, 128, 400, Integer.MAX_VALUE));
        Check.sentence("each has its own else", Edge01NewObjectTest::ownElse);
        Check.sentence("the least cells can be used, and no more", Edge01NewObjectTest::leastCellsAreUsed);
        Check.sentence("the most cells can be used, and no more", Edge01NewObjectTest::mostCellsAreUsed);
        Check.sentence("64 cells instead can be used, and no more", Edge01NewObjectTest::cellsInsteadAreUsed);
        Check.end();
    }

    private static void cellsOf(int want, int... cells) {
        for (int given : cells) {
            Check.due("cells of " + given, new ReplicaHeap(given, 1).count(12), want);
        }
    }

    private static void cellsWithin() {
        for (int cells = 16; cells <= 400; cells++) {
            cellsOf(cells, cells);
        }
    }

    private static void quantumOf(int want, int... quanta) {
        for (int given : quanta) {
            ReplicaHeap heap = Heaps.scanning(given);
            int before = heap.count(9);
            heap.putNumber(0, 0, 1);
            Check.due("quantum of " + given, heap.count(9) - before, want);
        }
    }

    private static void quantumWithin() {
        for (int quantum = 1; quantum <= 64; quantum++) {
            quantumOf(quantum, quantum);
        }
    }

    private static int unitsOfAChange(ReplicaHeap heap) {
        heap.alloc(0, 8);
        heap.collect(9);
        heap.putNumber(0, 0, 1);
        return heap.count(9) - 9;
    }

    private static void ownElse() {
        Check.due("quantum where cells are wrong", unitsOfAChange(new ReplicaHeap(15, 7)), 7);
        Check.due("cells where quantum is wrong", new ReplicaHeap(100, 0).count(12), 100);
        Check.due("cells where both are wrong", new ReplicaHeap(401, 65).count(12), 64);
        Check.due("quantum where both are wrong", unitsOfAChange(new ReplicaHeap(401, 65)), 4);
    }

    /** A chain of living objects, so that no collection can free a cell. */
    private static void fill(ReplicaHeap heap, int cells) {
        int left = cells;
        while (left > 0) {
            int fields = left > 10 ? 7 : left > 9 ? 4 : left - 1;
            Check.due("alloc", heap.alloc(1, fields), true);
            heap.put(1, 0, 0);
            heap.move(0, 1);
            left -= fields + 1;
        }
        heap.number(1, 0);
        Check.due("used", heap.count(2), cells);
        Check.due("pauses", heap.count(8), 0);
        Check.due("one more", heap.alloc(1, 1), false);
    }

    private static void leastCellsAreUsed() {
        fill(new ReplicaHeap(16, 1), 16);
    }

    private static void mostCellsAreUsed() {
        fill(new ReplicaHeap(400, 1), 400);
    }

    private static void cellsInsteadAreUsed() {
        fill(new ReplicaHeap(15, 1), 64);
        fill(new ReplicaHeap(401, 1), 64);
    }
}
