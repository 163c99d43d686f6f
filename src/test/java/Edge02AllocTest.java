/** Promise 2: the bounds of root and fields, and the answer where it fails. */
public final class Edge02AllocTest {
    public static void main(String[] args) {
        Check.sentence("a root refers to it then: the first and the last", Edge02AllocTest::firstAndLastRoot);
        Check.sentence("a root refers to it then: whatever it had", Edge02AllocTest::whateverItHad);
        Check.sentence("fields 1 .. 8: the least and the most", Edge02AllocTest::leastAndMostFields);
        Check.sentence("false if it fails: a number is as it was", Edge02AllocTest::numberAsItWas);
        Check.sentence("false if it fails: a reference is as it was", Edge02AllocTest::referenceAsItWas);
        Check.sentence("false if it fails: collections may have been", Edge02AllocTest::collectionsMayHaveBeen);
        Check.sentence("no such root", Edge02AllocTest::noSuchRoot);
        Check.sentence("fields not 1 .. 8", Edge02AllocTest::noSuchFields);
        Check.sentence("no such root or fields, where it would fail", Edge02AllocTest::refusedWhereItWouldFail);
        Check.end();
    }

    private static void firstAndLastRoot() {
        ReplicaHeap heap = new ReplicaHeap(64, 1);
        Check.due("alloc(0, 1)", heap.alloc(0, 1), true);
        Check.due("alloc(15, 1)", heap.alloc(15, 1), true);
        for (int root = 0; root < 16; root++) {
            Check.due("look(" + root + ", 0)", heap.look(root, 0), root == 0 || root == 15 ? 1 : 0);
        }
        Check.due("look(15, 1)", heap.look(15, 1), 2);
    }

    private static void whateverItHad() {
        ReplicaHeap heap = new ReplicaHeap(64, 1);
        heap.number(0, -9);
        heap.alloc(0, 3);
        Check.due("behind a number", heap.look(0, 0), 1);
        Check.due("its place", heap.look(0, 1), 0);
        heap.alloc(0, 2);
        Check.due("behind a reference", heap.look(0, 1), 4);
        Check.due("its fields", heap.look(0, 2), 2);
    }

    private static void leastAndMostFields() {
        ReplicaHeap heap = new ReplicaHeap(64, 1);
        Check.due("alloc(0, 1)", heap.alloc(0, 1), true);
        Check.due("look(0, 2)", heap.look(0, 2), 1);
        Check.due("alloc(1, 8)", heap.alloc(1, 8), true);
        Check.due("look(1, 2)", heap.look(1, 2), 8);
        Check.due("count(2)", heap.count(2), 2 + 9);
        Check.due("count(11)", heap.count(11), 2);
    }

    private static void numberAsItWas() {
        ReplicaHeap heap = Heaps.full(1);
        heap.number(15, -8);
        Check.due("alloc(15, 1)", heap.alloc(15, 1), false);
        Check.due("look(15, 0)", heap.look(15, 0), 0);
        Check.due("look(15, 1)", heap.look(15, 1), -8);
        Check.due("alloc(15, 8), at rest", heap.alloc(15, 8), false);
        Check.due("look(15, 1)", heap.look(15, 1), -8);
    }

    private static void referenceAsItWas() {
        ReplicaHeap heap = new ReplicaHeap(16, 1);
        heap.alloc(0, 7);
        heap.putNumber(0, 6, 66);
        heap.alloc(1, 7);
        // It would fit if the root let go of what it has.
        Check.due("alloc(0, 7)", heap.alloc(0, 7), false);
        Check.due("look(0, 0)", heap.look(0, 0), 1);
        Check.due("look(0, 2)", heap.look(0, 2), 7);
        Check.due("field(0, 6, 1)", heap.field(0, 6, 1), 66);
        Check.due("look(1, 1)", heap.look(1, 1), 8);
    }

    private static void collectionsMayHaveBeen() {
        ReplicaHeap heap = Heaps.full(1);
        Check.due("alloc(2, 1)", heap.alloc(2, 1), false);
        Check.due("flips", heap.count(7), 2);
        Check.due("units", heap.count(9), 96);
        Check.due("made", heap.count(11), 2);
        Check.due("alloc(2, 1) again", heap.alloc(2, 1), false);
        Check.due("flips", heap.count(7), 3);
        Check.due("current", heap.count(0), 1);
    }

    private static void noSuchRoot() {
        ReplicaHeap heap = Heaps.running();
        Check.eachOutside(0, 15, root ->
            Check.refused("alloc(" + root + ", 1)", heap, Check.IAE, () -> heap.alloc(root, 1)));
    }

    private static void noSuchFields() {
        ReplicaHeap heap = Heaps.running();
        Check.eachOutside(1, 8, fields ->
            Check.refused("alloc(0, " + fields + ")", heap, Check.IAE, () -> heap.alloc(0, fields)));
    }

    private static void refusedWhereItWouldFail() {
        for (ReplicaHeap heap : new ReplicaHeap[] {Heaps.full(1), Heaps.fullAtRest(1)}) {
            Check.refused("alloc(16, 8)", heap, Check.IAE, () -> heap.alloc(16, 8));
            Check.refused("alloc(-1, 8)", heap, Check.IAE, () -> heap.alloc(-1, 8));
            Check.refused("alloc(0, 9)", heap, Check.IAE, () -> heap.alloc(0, 9));
            Check.refused("alloc(0, 0)", heap, Check.IAE, () -> heap.alloc(0, 0));
        }
    }
}
