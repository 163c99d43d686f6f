/** Promise 13: each count at its least and where it is 0 again, and another what. */
public final class Edge13CountTest {
    public static void main(String[] args) {
        Check.sentence("0: the current space", Edge13CountTest::currentSpace);
        Check.sentence("1: 1 if a collection is running, else 0", Edge13CountTest::running);
        Check.sentence("2: cells used in the current space", Edge13CountTest::usedCurrent);
        Check.sentence("3: in the other one, 0 if none is running", Edge13CountTest::usedOther);
        Check.sentence("4: scan", Edge13CountTest::scan);
        Check.sentence("5, 6: entries of the log, of these taken", Edge13CountTest::entries);
        Check.sentence("7: flips so far, by every way", Edge13CountTest::flips);
        Check.sentence("8: pauses so far, by an allocation alone", Edge13CountTest::pauses);
        Check.sentence("9: units so far, over every flip", Edge13CountTest::units);
        Check.sentence("10: the most units of one call: it never falls", Edge13CountTest::mostNeverFalls);
        Check.sentence("10: the most units of one call: of a whole call", Edge13CountTest::mostOfAWholeCall);
        Check.sentence("10: the most units of one call: of each kind", Edge13CountTest::mostOfEachKind);
        Check.sentence("11: objects made so far: copies and failures are none", Edge13CountTest::made);
        Check.sentence("12: cells of a space", Edge13CountTest::cells);
        Check.sentence("NONE for another what", Edge13CountTest::another);
        Check.end();
    }

    private static void currentSpace() {
        ReplicaHeap heap = new ReplicaHeap(16, 1);
        for (int flips = 0; flips < 5; flips++) {
            Check.due("count(0)", heap.count(0), flips % 2);
            heap.collect(0);
            Check.due("count(0), begun", heap.count(0), flips % 2);
            heap.collect(1);
        }
    }

    private static void running() {
        ReplicaHeap heap = new ReplicaHeap(16, 1);
        Check.due("new", heap.count(1), 0);
        heap.collect(0);
        Check.due("begun", heap.count(1), 1);
        heap.collect(1);
        Check.due("flipped", heap.count(1), 0);
        heap.alloc(0, 8);
        Check.due("begun by an allocation", heap.count(1), 1);
    }

    private static void usedCurrent() {
        ReplicaHeap heap = new ReplicaHeap(16, 1);
        Check.due("empty", heap.count(2), 0);
        heap.alloc(0, 1);
        Check.due("the least", heap.count(2), 2);
        Check.due("full", Heaps.full(1).count(2), 16);
        heap.number(0, 0);
        Check.due("a dead one is used", heap.count(2), 2);
        heap.collect(-1);
        Check.due("empty again", heap.count(2), 0);
    }

    private static void usedOther() {
        ReplicaHeap heap = Heaps.full(1);
        Check.due("nothing copied", heap.count(3), 0);
        heap.collect(1);
        Check.due("one copied", heap.count(3), 8);
        heap.collect(16);
        Check.due("all copied", heap.count(3), 16);
        heap.collect(-1);
        Check.due("none is running", heap.count(3), 0);
        heap.collect(0);
        Check.due("begun anew", heap.count(3), 0);
    }

    private static void scan() {
        ReplicaHeap heap = Heaps.full(1);
        Check.due("begun", heap.count(4), 0);
        heap.collect(8);
        Check.due("copied, not scanned", heap.count(4), 0);
        heap.collect(24);
        Check.due("all scanned", heap.count(4), 16);
        heap.collect(1);
        Check.due("flipped", heap.count(4), 0);
    }

    private static void entries() {
        ReplicaHeap heap = Heaps.scanning(1);
        for (int entries = 0; entries < 20; entries++) {
            Check.due("count(5)", heap.count(5), entries);
            Check.due("count(6)", heap.count(6), entries);
            heap.putNumber(0, entries % 8, entries);
        }
        heap.collect(-1);
        Check.due("count(5), flipped", heap.count(5), 0);
        Check.due("count(6), flipped", heap.count(6), 0);
    }

    private static void flips() {
        ReplicaHeap heap = Heaps.full(64);
        Check.due("begun", heap.count(7), 0);
        heap.putNumber(0, 0, 1);
        Check.due("by a change", heap.count(7), 1);
        heap.collect(-1);
        Check.due("by collect", heap.count(7), 2);
        heap.alloc(2, 1);
        Check.due("by a pause", heap.count(7), 3);
        heap.number(1, 0);
        heap.alloc(1, 1);
        Check.due("by another", heap.count(7), 4);
        heap.alloc(2, 1);
        Check.due("by an allocation's work", heap.count(7), 5);
        Check.due("pauses", heap.count(8), 2);
    }

    private static void pauses() {
        ReplicaHeap heap = Heaps.full(1);
        heap.collect(-1);
        heap.collect(0);
        Check.due("collect is none", heap.count(8), 0);
        heap.alloc(2, 1);
        Check.due("two of one call", heap.count(8), 2);
        heap.alloc(2, 1);
        Check.due("one of one call", heap.count(8), 3);
        ReplicaHeap worked = new ReplicaHeap(16, 64);
        worked.alloc(0, 8);
        worked.alloc(1, 1);
        Check.due("a flip by work", worked.count(7), 1);
        Check.due("is none", worked.count(8), 0);
    }

    private static void units() {
        ReplicaHeap heap = Heaps.full(1);
        Check.due("begun", heap.count(9), 0);
        heap.collect(1);
        Check.due("8 to copy", heap.count(9), 8);
        heap.putNumber(0, 0, 1);
        Check.due("1 to take", heap.count(9), 9);
        heap.collect(-1);
        Check.due("to the flip", heap.count(9), 49);
        heap.alloc(2, 1);
        Check.due("a pause", heap.count(9), 97);
    }

    private static void mostNeverFalls() {
        ReplicaHeap heap = Heaps.scanning(1);
        Check.due("count(10)", heap.count(10), 90);
        heap.collect(5);
        heap.putNumber(0, 0, 1);
        heap.alloc(2, 1);
        Check.due("count(10), less work", heap.count(10), 90);
        heap.collect(-1);
        Check.due("count(10), less again", heap.count(10), 90);
        // 81 cells and the new object's 2, without the 9 that the change has freed.
        heap.collect(-1);
        Check.due("count(10), more", heap.count(10), 74 + 74 + 16);
    }

    private static void mostOfAWholeCall() {
        ReplicaHeap heap = Heaps.full(1);
        heap.alloc(2, 1);
        Check.due("both collections of a call that failed", heap.count(10), 48 + 48);
        ReplicaHeap calls = new ReplicaHeap(64, 1);
        calls.alloc(0, 8);
        calls.collect(9);
        calls.collect(9);
        Check.due("not of two calls", calls.count(10), 9);
    }

    private static void mostOfEachKind() {
        ReplicaHeap heap = new ReplicaHeap(64, 1);
        heap.alloc(0, 1);
        heap.alloc(1, 8);
        heap.collect(1);
        Check.due("collect", heap.count(10), 2);
        heap.putNumber(0, 0, 1);
        Check.due("putNumber does less", heap.count(10), 2);
        heap.put(0, 0, 1);
        Check.due("put", heap.count(10), 10);
        ReplicaHeap changed = new ReplicaHeap(64, 64);
        changed.alloc(0, 1);
        changed.collect(0);
        changed.putNumber(0, 0, 1);
        Check.due("putNumber", changed.count(10), 21);
        ReplicaHeap allocated = new ReplicaHeap(64, 64);
        allocated.alloc(0, 1);
        allocated.collect(0);
        allocated.alloc(1, 1);
        Check.due("alloc", allocated.count(10), 4 + 4 + 16);
    }

    private static void made() {
        ReplicaHeap heap = Heaps.full(1);
        Check.due("two", heap.count(11), 2);
        heap.collect(-1);
        Check.due("copies are none", heap.count(11), 2);
        heap.alloc(2, 1);
        Check.due("failures are none", heap.count(11), 2);
        heap.number(0, 0);
        heap.alloc(0, 1);
        Check.due("dead ones stay", heap.count(11), 3);
    }

    private static void cells() {
        for (int cells : new int[] {16, 17, 64, 399, 400}) {
            Check.due("count(12)", new ReplicaHeap(cells, 1).count(12), cells);
        }
    }

    private static void another() {
        ReplicaHeap heap = Heaps.running();
        String before = Picture.of(heap);
        Check.eachOutside(0, 12, what -> Check.due("count(" + what + ")", heap.count(what), -1));
        for (int what = 13; what < 100; what++) {
            Check.due("count(" + what + ")", heap.count(what), -1);
            Check.due("count(" + -what + ")", heap.count(-what), -1);
        }
        Check.unchanged("count", heap, before);
    }
}
