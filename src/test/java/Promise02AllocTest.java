/** Promise 2: where an object is laid, when a collection begins, works or pauses, and what is refused. */
public final class Promise02AllocTest {
    public static void main(String[] args) {
        laysObjectsOneBehindTheOther();
        laysZerosWhereOtherObjectsWere();
        beginsBeyondHalfAlone();
        worksForTheQuantum();
        bringsTheNewObjectOverAFlip();
        finishesARunningCollection();
        collectsTwiceAndFails();
        beginsAnewBehindAPause();
        countsAllUnitsOfACall();
        keepsTheOldRootUntilTheObjectIsLaid();
        refusesWrongInputs();
        Check.end();
    }

    private static void laysObjectsOneBehindTheOther() {
        ReplicaHeap heap = new ReplicaHeap(64, 4);
        Check.due("alloc(15, 1)", heap.alloc(15, 1), true);
        Check.due("alloc(0, 8)", heap.alloc(0, 8), true);
        Check.due("look(15, 1)", heap.look(15, 1), 0);
        Check.due("look(0, 1)", heap.look(0, 1), 2);
        Check.due("look(0, 2)", heap.look(0, 2), 8);
        Check.due("look(0, 3)", heap.look(0, 3), -1);
        for (int place = 3; place < 11; place++) {
            Check.due("kind of a new field", heap.cell(0, place, 0), 0);
            Check.due("number of a new field", heap.cell(0, place, 1), 0);
        }
        Check.counts("two objects", heap, 0, 0, 11, 0, 0, 0, 0, 0, 0, 0, 0, 2, 64);
    }

    private static void laysZerosWhereOtherObjectsWere() {
        ReplicaHeap heap = new ReplicaHeap(16, 4);
        heap.alloc(0, 7);
        for (int field = 0; field < 7; field++) {
            heap.put(0, field, 0);
        }
        heap.number(0, 0);
        heap.collect(-1);
        heap.collect(-1);
        Check.due("the first space again", heap.count(0), 0);
        heap.alloc(1, 6);
        Check.due("at its beginning", heap.look(1, 1), 0);
        for (int field = 0; field < 6; field++) {
            Check.due("kind of a field laid anew", heap.field(1, field, 0), 0);
            Check.due("number of a field laid anew", heap.field(1, field, 1), 0);
        }
    }

    private static void beginsBeyondHalfAlone() {
        ReplicaHeap even = new ReplicaHeap(16, 1);
        even.alloc(0, 7);
        Check.due("running at 8 of 16", even.count(1), 0);
        even.alloc(1, 1);
        Check.counts("at 10 of 16", even, 0, 1, 10, 0, 0, 0, 0, 0, 0, 0, 0, 2, 16);
        ReplicaHeap odd = new ReplicaHeap(17, 1);
        odd.alloc(0, 7);
        Check.due("running at 8 of 17", odd.count(1), 0);
        ReplicaHeap beyond = new ReplicaHeap(17, 1);
        beyond.alloc(0, 8);
        Check.due("running at 9 of 17", beyond.count(1), 1);
    }

    private static void worksForTheQuantum() {
        ReplicaHeap heap = new ReplicaHeap(100, 2);
        heap.alloc(0, 8);
        heap.collect(0);
        // 2 * 2 units: the root's object (9) is more than that already.
        heap.alloc(1, 1);
        Check.counts("behind the first", heap, 0, 1, 11, 9, 0, 0, 0, 0, 0, 9, 9, 2, 100);
        // 2 * 3 units, all of them scanned numbers.
        heap.alloc(2, 2);
        Check.counts("behind the second", heap, 0, 1, 14, 9, 6, 0, 0, 0, 0, 15, 9, 3, 100);
    }

    private static void bringsTheNewObjectOverAFlip() {
        ReplicaHeap heap = new ReplicaHeap(16, 64);
        heap.alloc(0, 8);
        Check.due("running", heap.count(1), 1);
        Check.due("alloc(0, 2)", heap.alloc(0, 2), true);
        // 3 to copy, 3 to scan, 16 for the flip; what root 0 had before is gone.
        Check.counts("flipped", heap, 1, 0, 3, 0, 0, 0, 0, 1, 0, 22, 22, 2, 16);
        Check.due("look(0, 1)", heap.look(0, 1), 0);
        Check.due("look(0, 2)", heap.look(0, 2), 2);
        Check.due("look(0, 3)", heap.look(0, 3), -1);
    }

    private static void finishesARunningCollection() {
        ReplicaHeap heap = new ReplicaHeap(16, 1);
        heap.alloc(0, 2);
        heap.alloc(1, 7);
        heap.number(1, 0);
        // 11 of 16 used, 6 asked: one pause frees the 8 and the object comes behind the 3.
        Check.due("alloc(1, 5)", heap.alloc(1, 5), true);
        Check.counts("one pause", heap, 1, 1, 9, 0, 0, 0, 0, 1, 1, 22, 22, 3, 16);
        Check.due("look(1, 1)", heap.look(1, 1), 3);
    }

    private static void collectsTwiceAndFails() {
        ReplicaHeap heap = new ReplicaHeap(16, 1);
        heap.alloc(0, 8);
        heap.putNumber(0, 3, 77);
        heap.alloc(1, 5);
        Check.due("pauses", heap.count(8), 0);
        heap.number(2, 9);
        Check.due("alloc(2, 1)", heap.alloc(2, 1), false);
        Check.due("two pauses", heap.count(8), 2);
        Check.due("two flips", heap.count(7), 2);
        Check.due("no collection begins", heap.count(1), 0);
        Check.due("objects made", heap.count(11), 2);
        Check.due("used", heap.count(2), 15);
        Check.due("look(2, 0)", heap.look(2, 0), 0);
        Check.due("look(2, 1)", heap.look(2, 1), 9);
        Check.due("field(0, 3, 1)", heap.field(0, 3, 1), 77);
        // None is running now: only one pause.
        Check.due("alloc(0, 1) again", heap.alloc(0, 1), false);
        Check.due("three pauses", heap.count(8), 3);
        Check.due("root 0 is as it was", heap.look(0, 2), 8);
        Check.due("objects made again", heap.count(11), 2);
    }

    private static void beginsAnewBehindAPause() {
        // What dies while it is being copied needs a second collection.
        ReplicaHeap heap = new ReplicaHeap(16, 1);
        heap.alloc(0, 7);
        heap.alloc(1, 7);
        heap.collect(1);
        Check.due("root 0 copied", heap.look(0, 3), 0);
        heap.number(0, 0);
        Check.due("alloc(2, 7)", heap.alloc(2, 7), true);
        // First: 8 scanned, 8 copied, 8 scanned, the flip is 16 (but root 1's 8 and 0's 8 stay: 16 used): no room.
        Check.due("pauses", heap.count(8), 2);
        Check.due("flips", heap.count(7), 2);
        Check.due("look(1, 1)", heap.look(1, 1), 0);
        Check.due("look(2, 1)", heap.look(2, 1), 8);
        Check.due("a third collection begins", heap.count(1), 1);
        Check.due("and has not worked", heap.count(3), 0);
        Check.due("units", heap.count(9), 8 + (8 + 8 + 8 + 16) + (8 + 8 + 16));
    }

    private static void countsAllUnitsOfACall() {
        ReplicaHeap heap = new ReplicaHeap(16, 1);
        heap.alloc(0, 7);
        heap.alloc(1, 7);
        heap.alloc(2, 1);
        Check.due("units of two collections", heap.count(9), 2 * (16 + 16 + 16));
        Check.due("most units of one call", heap.count(10), 2 * (16 + 16 + 16));
    }

    private static void keepsTheOldRootUntilTheObjectIsLaid() {
        ReplicaHeap heap = new ReplicaHeap(16, 1);
        heap.alloc(0, 8);
        Check.due("alloc(0, 8)", heap.alloc(0, 8), false);
        Check.due("look(0, 0)", heap.look(0, 0), 1);
        Check.due("look(0, 2)", heap.look(0, 2), 8);
        heap.number(0, 0);
        Check.due("alloc(0, 8) behind number", heap.alloc(0, 8), true);
    }

    private static void refusesWrongInputs() {
        ReplicaHeap heap = new ReplicaHeap(16, 1);
        heap.alloc(0, 8);
        int[][] wrong = {
            {-1, 1}, {16, 1}, {Integer.MAX_VALUE, 1}, {Integer.MIN_VALUE, 1},
            {0, 0}, {0, 9}, {0, -1}, {0, Integer.MAX_VALUE}, {0, Integer.MIN_VALUE}, {16, 9}
        };
        for (int[] row : wrong) {
            Check.refused("alloc(" + row[0] + ", " + row[1] + ")", heap, Check.IAE, () -> heap.alloc(row[0], row[1]));
        }
    }
}
