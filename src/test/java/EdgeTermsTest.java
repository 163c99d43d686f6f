/** "Terms": spaces, objects, roots and the collection, at first and at their bounds. */
public final class EdgeTermsTest {
    public static void main(String[] args) {
        Check.sentence("the current space is 0 at first", EdgeTermsTest::currentAtFirst);
        Check.sentence("roots 0 .. 15 have each a number, 0 at first", EdgeTermsTest::rootsAtFirst);
        Check.sentence("a collection is not running at first", EdgeTermsTest::notRunningAtFirst);
        Check.sentence("scan is 0 at first", EdgeTermsTest::scanAtFirst);
        Check.sentence("the log and what is taken begin empty", EdgeTermsTest::logAtFirst);
        Check.sentence("an object has 1 .. 8 fields, the cells behind it", EdgeTermsTest::leastAndMostFields);
        Check.sentence("objects lie from cell 0 on, one behind the other", EdgeTermsTest::oneBehindTheOther);
        Check.sentence("used are all up to the last one's end", EdgeTermsTest::usedUpToTheLastOnesEnd);
        Check.sentence("used are none of an empty space, all of a full one", EdgeTermsTest::emptyAndFull);
        Check.sentence("a header has its replica's place or NONE", EdgeTermsTest::replicaOrNone);
        Check.end();
    }

    private static void currentAtFirst() {
        ReplicaHeap heap = new ReplicaHeap(16, 1);
        Check.due("count(0)", heap.count(0), 0);
        heap.alloc(0, 1);
        Check.due("cell(0, 0, 0)", heap.cell(0, 0, 0), 3);
    }

    private static void rootsAtFirst() {
        ReplicaHeap heap = new ReplicaHeap(16, 1);
        for (int root = 0; root < 16; root++) {
            Check.due("look(" + root + ", 0)", heap.look(root, 0), 0);
            Check.due("look(" + root + ", 1)", heap.look(root, 1), 0);
        }
    }

    private static void notRunningAtFirst() {
        Check.due("count(1)", new ReplicaHeap(16, 1).count(1), 0);
    }

    private static void scanAtFirst() {
        ReplicaHeap heap = new ReplicaHeap(64, 1);
        Check.due("count(4)", heap.count(4), 0);
        heap.alloc(0, 2);
        heap.collect(5);
        Check.due("count(4) of the first", heap.count(4), 2);
        heap.collect(-1);
        heap.collect(0);
        Check.due("count(4) of the next", heap.count(4), 0);
    }

    private static void logAtFirst() {
        ReplicaHeap heap = new ReplicaHeap(64, 1);
        Check.due("count(5)", heap.count(5), 0);
        Check.due("count(6)", heap.count(6), 0);
        heap.alloc(0, 2);
        heap.collect(0);
        Check.due("count(5), begun", heap.count(5), 0);
        Check.due("count(6), begun", heap.count(6), 0);
        heap.putNumber(0, 0, 1);
        heap.collect(-1);
        heap.collect(0);
        Check.due("count(5) of the next", heap.count(5), 0);
        Check.due("count(6) of the next", heap.count(6), 0);
    }

    private static void leastAndMostFields() {
        for (int fields = 1; fields <= 8; fields++) {
            ReplicaHeap heap = new ReplicaHeap(64, 1);
            heap.alloc(0, fields);
            Check.due("look(0, 2)", heap.look(0, 2), fields);
            Check.due("count(2)", heap.count(2), fields + 1);
            Check.due("cell(0, 0, 1)", heap.cell(0, 0, 1), fields);
            heap.putNumber(0, 0, 11);
            heap.putNumber(0, fields - 1, 22);
            Check.due("the last cell", heap.cell(0, fields, 1), 22);
            Check.due("the first field", heap.cell(0, 1, 1), fields == 1 ? 22 : 11);
        }
    }

    private static void oneBehindTheOther() {
        ReplicaHeap heap = new ReplicaHeap(100, 1);
        int[] fields = {8, 1, 3, 8, 1};
        int place = 0;
        for (int root = 0; root < fields.length; root++) {
            heap.alloc(root, fields[root]);
            Check.due("look(" + root + ", 1)", heap.look(root, 1), place);
            Check.due("cell(0, " + place + ", 0)", heap.cell(0, place, 0), 3);
            place += fields[root] + 1;
        }
    }

    private static void usedUpToTheLastOnesEnd() {
        ReplicaHeap heap = new ReplicaHeap(64, 1);
        heap.alloc(0, 3);
        heap.alloc(0, 1);
        Check.due("count(2)", heap.count(2), 6);
        Check.due("the last one's end", heap.cell(0, 5, 0), 0);
        Check.refused("cell(0, 6, 0)", heap, Check.IOOBE, () -> heap.cell(0, 6, 0));
        // What no root has any more is used until a flip.
        Check.due("the dead one's header", heap.cell(0, 0, 0), 3);
    }

    private static void emptyAndFull() {
        Check.due("empty", new ReplicaHeap(400, 1).count(2), 0);
        ReplicaHeap least = Heaps.full(1);
        Check.due("cell(0, 15, 0)", least.cell(0, 15, 0), 0);
        Check.refused("cell(0, 16, 0)", least, Check.IOOBE, () -> least.cell(0, 16, 0));
        ReplicaHeap most = Heaps.chain(64, 44);
        Check.due("alloc(1, 3)", most.alloc(1, 3), true);
        Check.due("full", most.count(2), 400);
        Check.due("pauses", most.count(8), 0);
        int space = most.count(0);
        Check.due("the last cell", most.cell(space, 399, 0), 0);
        Check.refused("cell beyond", most, Check.IOOBE, () -> most.cell(space, 400, 0));
    }

    private static void replicaOrNone() {
        ReplicaHeap heap = new ReplicaHeap(64, 1);
        heap.alloc(1, 1);
        heap.alloc(0, 1);
        Check.due("none is running", heap.cell(0, 2, 2), -1);
        heap.collect(1);
        Check.due("copied to place 0", heap.cell(0, 2, 2), 0);
        Check.due("not copied", heap.cell(0, 0, 2), -1);
        heap.collect(3);
        Check.due("copied to place 2", heap.cell(0, 0, 2), 2);
    }
}
