/** Promise 6: the bounds of both roots. */
public final class Edge06MoveTest {
    public static void main(String[] args) {
        Check.sentence("true: the first and the last root, both ways", Edge06MoveTest::firstAndLastRoot);
        Check.sentence("true: a number over a reference, and back", Edge06MoveTest::numberAndReference);
        Check.sentence("true: the same root", Edge06MoveTest::sameRoot);
        Check.sentence("false: no such first root", Edge06MoveTest::noSuchFirstRoot);
        Check.sentence("false: no such second root", Edge06MoveTest::noSuchSecondRoot);
        Check.sentence("false: neither", Edge06MoveTest::neither);
        Check.end();
    }

    private static void firstAndLastRoot() {
        ReplicaHeap heap = new ReplicaHeap(64, 1);
        heap.number(15, 3);
        Check.due("move(0, 15)", heap.move(0, 15), true);
        Check.due("look(0, 1)", heap.look(0, 1), 3);
        heap.number(0, 4);
        Check.due("move(15, 0)", heap.move(15, 0), true);
        Check.due("look(15, 1)", heap.look(15, 1), 4);
        Check.due("look(0, 1) is left", heap.look(0, 1), 4);
    }

    private static void numberAndReference() {
        ReplicaHeap heap = new ReplicaHeap(64, 1);
        heap.alloc(1, 2);
        heap.alloc(0, 8);
        heap.number(2, Integer.MIN_VALUE);
        Check.due("move(1, 2)", heap.move(1, 2), true);
        Check.due("look(1, 0)", heap.look(1, 0), 0);
        Check.due("look(1, 1)", heap.look(1, 1), Integer.MIN_VALUE);
        Check.due("move(1, 0)", heap.move(1, 0), true);
        Check.due("look(1, 0)", heap.look(1, 0), 1);
        Check.due("look(1, 1)", heap.look(1, 1), 3);
        Check.due("look(1, 2)", heap.look(1, 2), 8);
    }

    private static void sameRoot() {
        ReplicaHeap heap = Heaps.running();
        String before = Picture.of(heap);
        for (int root = 0; root < 16; root++) {
            Check.due("move of root " + root, heap.move(root, root), true);
        }
        Check.unchanged("to itself", heap, before);
    }

    private static void noSuchFirstRoot() {
        ReplicaHeap heap = Heaps.running();
        Check.eachOutside(0, 15, into -> Check.denied("move(" + into + ", 0)", heap, () -> heap.move(into, 0)));
    }

    private static void noSuchSecondRoot() {
        ReplicaHeap heap = Heaps.running();
        Check.eachOutside(0, 15, root -> Check.denied("move(0, " + root + ")", heap, () -> heap.move(0, root)));
    }

    private static void neither() {
        ReplicaHeap heap = Heaps.running();
        Check.eachOutside(0, 15, root ->
            Check.denied("move(" + root + ", " + root + ")", heap, () -> heap.move(root, root)));
        Check.denied("move(-1, 16)", heap, () -> heap.move(-1, 16));
    }
}
