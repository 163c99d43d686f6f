/** Promise 9: the bounds of root and what, and a root without an object or replica. */
public final class Edge09LookTest {
    public static void main(String[] args) {
        Check.sentence("what 0 .. 3 of a number", Edge09LookTest::ofANumber);
        Check.sentence("what 0 .. 3 of an object", Edge09LookTest::ofAnObject);
        Check.sentence("the object's fields: 1 .. 8", Edge09LookTest::fields);
        Check.sentence("its replica or NONE", Edge09LookTest::replicaOrNone);
        Check.sentence("the first and the last root", Edge09LookTest::firstAndLastRoot);
        Check.sentence("no such root", Edge09LookTest::noSuchRoot);
        Check.sentence("no such what", Edge09LookTest::noSuchWhat);
        Check.end();
    }

    private static void look(ReplicaHeap heap, int root, int... want) {
        for (int what = 0; what < 4; what++) {
            Check.due("look(" + root + ", " + what + ")", heap.look(root, what), want[what]);
        }
    }

    private static void ofANumber() {
        ReplicaHeap heap = Heaps.running();
        look(heap, 3, 0, 0, 0, -1);
        // These numbers are places of objects that have fields and replicas.
        for (int number : new int[] {0, 2, 11, -1, Integer.MAX_VALUE, Integer.MIN_VALUE}) {
            heap.number(3, number);
            look(heap, 3, 0, number, 0, -1);
        }
    }

    private static void ofAnObject() {
        ReplicaHeap heap = new ReplicaHeap(64, 1);
        heap.alloc(1, 1);
        look(heap, 1, 1, 0, 1, -1);
        heap.alloc(0, 8);
        look(heap, 0, 1, 2, 8, -1);
    }

    private static void fields() {
        for (int fields = 1; fields <= 8; fields++) {
            ReplicaHeap heap = new ReplicaHeap(64, 1);
            heap.alloc(0, fields);
            Check.due("look(0, 2)", heap.look(0, 2), fields);
            heap.collect(-1);
            Check.due("look(0, 2) behind a flip", heap.look(0, 2), fields);
        }
    }

    private static void replicaOrNone() {
        ReplicaHeap heap = new ReplicaHeap(64, 1);
        heap.alloc(1, 1);
        heap.alloc(0, 2);
        heap.collect(1);
        look(heap, 0, 1, 2, 2, 0);
        look(heap, 1, 1, 0, 1, -1);
        heap.collect(4);
        look(heap, 1, 1, 0, 1, 3);
        heap.collect(-1);
        look(heap, 0, 1, 0, 2, -1);
        look(heap, 1, 1, 3, 1, -1);
    }

    private static void firstAndLastRoot() {
        ReplicaHeap heap = new ReplicaHeap(64, 1);
        heap.number(0, 5);
        heap.alloc(15, 2);
        look(heap, 0, 0, 5, 0, -1);
        look(heap, 14, 0, 0, 0, -1);
        look(heap, 15, 1, 0, 2, -1);
    }

    private static void noSuchRoot() {
        ReplicaHeap heap = Heaps.running();
        for (int what = 0; what < 4; what++) {
            int asked = what;
            Check.eachOutside(0, 15, root ->
                Check.refused("look(" + root + ", " + asked + ")", heap, Check.IOOBE, () -> heap.look(root, asked)));
        }
    }

    private static void noSuchWhat() {
        ReplicaHeap heap = Heaps.running();
        for (int root : new int[] {0, 2, 3, 15}) {
            Check.eachOutside(0, 3, what ->
                Check.refused("look(" + root + ", " + what + ")", heap, Check.IOOBE, () -> heap.look(root, what)));
        }
    }
}
