/** Promise 7: the bounds of the root, and any number. */
public final class Edge07NumberTest {
    public static void main(String[] args) {
        Check.sentence("true: the first and the last root, no other", Edge07NumberTest::firstAndLastRoot);
        Check.sentence("true: the least and the greatest number", Edge07NumberTest::leastAndGreatest);
        Check.sentence("true: over a reference", Edge07NumberTest::overAReference);
        Check.sentence("false: no such root", Edge07NumberTest::noSuchRoot);
        Check.end();
    }

    private static void firstAndLastRoot() {
        ReplicaHeap heap = new ReplicaHeap(64, 1);
        Check.due("number(0, 5)", heap.number(0, 5), true);
        Check.due("number(15, 6)", heap.number(15, 6), true);
        for (int root = 0; root < 16; root++) {
            Check.due("look(" + root + ", 1)", heap.look(root, 1), root == 0 ? 5 : root == 15 ? 6 : 0);
        }
    }

    private static void leastAndGreatest() {
        ReplicaHeap heap = new ReplicaHeap(64, 1);
        for (int number : new int[] {Integer.MIN_VALUE, -1, 0, 1, Integer.MAX_VALUE}) {
            Check.due("number(3, " + number + ")", heap.number(3, number), true);
            Check.due("look(3, 1)", heap.look(3, 1), number);
            heap.collect(-1);
            Check.due("look(3, 1) behind a flip", heap.look(3, 1), number);
        }
    }

    private static void overAReference() {
        ReplicaHeap heap = new ReplicaHeap(64, 1);
        heap.alloc(0, 2);
        // The object lies at 0: the number is no reference to it.
        Check.due("number(0, 0)", heap.number(0, 0), true);
        Check.due("look(0, 0)", heap.look(0, 0), 0);
        Check.due("look(0, 2)", heap.look(0, 2), 0);
        heap.collect(-1);
        Check.due("count(2)", heap.count(2), 0);
    }

    private static void noSuchRoot() {
        ReplicaHeap heap = Heaps.running();
        Check.eachOutside(0, 15, root -> Check.denied("number(" + root + ", 9)", heap, () -> heap.number(root, 9)));
    }
}
