/** Promise 11: the bounds of space, place and what, used and unused cells of both spaces. */
public final class Edge11CellTest {
    public static void main(String[] args) {
        Check.sentence("what 0 .. 2 of a number", Edge11CellTest::ofANumber);
        Check.sentence("a reference to space 0, to space 1", Edge11CellTest::ofAReference);
        Check.sentence("a header: fields, and the replica", Edge11CellTest::ofAHeader);
        Check.sentence("else NONE: of a cell that lay under a header", Edge11CellTest::underAHeader);
        Check.sentence("the other one, while a collection runs: what is copied there", Edge11CellTest::whatIsCopied);
        Check.sentence("else it has none: never begun", Edge11CellTest::otherNeverBegun);
        Check.sentence("else it has none: begun, nothing copied", Edge11CellTest::otherJustBegun);
        Check.sentence("else it has none: behind a flip", Edge11CellTest::otherBehindAFlip);
        Check.sentence("no such space", Edge11CellTest::noSuchSpace);
        Check.sentence("no such used cell: an empty space", Edge11CellTest::emptySpace);
        Check.sentence("no such used cell: beyond the last", Edge11CellTest::beyondTheLast);
        Check.sentence("no such used cell: a full space", Edge11CellTest::fullSpace);
        Check.sentence("no such what", Edge11CellTest::noSuchWhat);
        Check.end();
    }

    private static void cell(ReplicaHeap heap, int space, int place, int... want) {
        for (int what = 0; what < 3; what++) {
            Check.due("cell(" + space + ", " + place + ", " + what + ")", heap.cell(space, place, what), want[what]);
        }
    }

    private static void refused(ReplicaHeap heap, int space, int place) {
        for (int what = 0; what < 3; what++) {
            int asked = what;
            Check.refused("cell(" + space + ", " + place + ", " + what + ")", heap, Check.IOOBE,
                () -> heap.cell(space, place, asked));
        }
    }

    private static void ofANumber() {
        ReplicaHeap heap = new ReplicaHeap(64, 1);
        heap.alloc(0, 3);
        heap.putNumber(0, 1, Integer.MAX_VALUE);
        heap.putNumber(0, 2, Integer.MIN_VALUE);
        cell(heap, 0, 1, 0, 0, -1);
        cell(heap, 0, 2, 0, Integer.MAX_VALUE, -1);
        cell(heap, 0, 3, 0, Integer.MIN_VALUE, -1);
    }

    private static void ofAReference() {
        ReplicaHeap heap = new ReplicaHeap(64, 1);
        heap.alloc(1, 1);
        heap.alloc(0, 2);
        heap.put(0, 0, 1);
        heap.put(0, 1, 0);
        cell(heap, 0, 3, 1, 0, -1);
        cell(heap, 0, 4, 1, 2, -1);
        heap.collect(3 + 1);
        cell(heap, 1, 1, 1, 0, -1);
        heap.collect(1);
        cell(heap, 1, 1, 2, 3, -1);
        cell(heap, 1, 2, 1, 2, -1);
        heap.collect(1);
        cell(heap, 1, 2, 2, 0, -1);
        heap.collect(-1);
        cell(heap, 1, 1, 2, 3, -1);
        heap.collect(3);
        cell(heap, 0, 1, 2, 3, -1);
        heap.collect(2);
        cell(heap, 0, 1, 1, 3, -1);
    }

    private static void ofAHeader() {
        ReplicaHeap heap = new ReplicaHeap(64, 1);
        heap.alloc(1, 1);
        heap.alloc(0, 8);
        cell(heap, 0, 0, 3, 1, -1);
        cell(heap, 0, 2, 3, 8, -1);
        heap.collect(9 + 9 + 2);
        cell(heap, 0, 0, 3, 1, 9);
        cell(heap, 0, 2, 3, 8, 0);
        cell(heap, 1, 0, 3, 8, -1);
        cell(heap, 1, 9, 3, 1, -1);
    }

    private static void underAHeader() {
        ReplicaHeap heap = new ReplicaHeap(64, 1);
        heap.alloc(0, 1);
        heap.alloc(1, 1);
        heap.collect(-1);
        heap.number(0, 0);
        heap.number(1, 0);
        heap.collect(-1);
        // At 2 lay a header whose replica was at 2.
        heap.alloc(0, 8);
        cell(heap, 0, 2, 0, 0, -1);
        heap.put(0, 1, 0);
        cell(heap, 0, 2, 1, 0, -1);
    }

    private static void whatIsCopied() {
        ReplicaHeap heap = new ReplicaHeap(64, 1);
        heap.alloc(0, 2);
        heap.alloc(1, 1);
        heap.collect(1);
        cell(heap, 1, 2, 0, 0, -1);
        refused(heap, 1, 3);
        heap.collect(4);
        cell(heap, 1, 4, 0, 0, -1);
        refused(heap, 1, 5);
    }

    private static void otherNeverBegun() {
        ReplicaHeap heap = new ReplicaHeap(64, 1);
        heap.alloc(0, 2);
        refused(heap, 1, 0);
    }

    private static void otherJustBegun() {
        ReplicaHeap heap = new ReplicaHeap(64, 1);
        heap.alloc(0, 2);
        heap.collect(0);
        refused(heap, 1, 0);
        heap.collect(-1);
        heap.collect(0);
        refused(heap, 0, 0);
    }

    private static void otherBehindAFlip() {
        ReplicaHeap heap = new ReplicaHeap(64, 1);
        heap.alloc(0, 2);
        heap.collect(-1);
        refused(heap, 0, 0);
        cell(heap, 1, 0, 3, 2, -1);
        heap.collect(-1);
        refused(heap, 1, 0);
        cell(heap, 0, 0, 3, 2, -1);
    }

    private static void noSuchSpace() {
        ReplicaHeap heap = Heaps.running();
        Check.eachOutside(0, 1, space -> refused(heap, space, 0));
    }

    private static void emptySpace() {
        ReplicaHeap heap = new ReplicaHeap(16, 1);
        refused(heap, 0, 0);
        refused(heap, 1, 0);
        Check.eachOutside(0, 15, place -> refused(heap, 0, place));
    }

    private static void beyondTheLast() {
        ReplicaHeap heap = Heaps.running();
        for (int space = 0; space < 2; space++) {
            int asked = space;
            int used = heap.count(2 + space);
            heap.cell(space, used - 1, 0);
            Check.eachOutside(0, used - 1, place -> refused(heap, asked, place));
        }
        refused(heap, 0, 63);
        refused(heap, 0, 64);
    }

    private static void fullSpace() {
        ReplicaHeap heap = Heaps.full(1);
        heap.collect(16 + 16);
        for (int space = 0; space < 2; space++) {
            int asked = space;
            cell(heap, space, 15, 0, 0, -1);
            Check.eachOutside(0, 15, place -> refused(heap, asked, place));
        }
    }

    private static void noSuchWhat() {
        ReplicaHeap heap = Heaps.running();
        for (int space = 0; space < 2; space++) {
            for (int place = 0; place < 2; place++) {
                int[] at = {space, place};
                Check.eachOutside(0, 2, what ->
                    Check.refused("cell(" + at[0] + ", " + at[1] + ", " + what + ")", heap, Check.IOOBE,
                        () -> heap.cell(at[0], at[1], what)));
            }
        }
    }
}
