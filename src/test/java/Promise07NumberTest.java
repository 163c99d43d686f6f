/** Promise 7: a root becomes a number. */
public final class Promise07NumberTest {
    public static void main(String[] args) {
        ReplicaHeap heap = new ReplicaHeap(64, 4);
        heap.alloc(0, 2);
        int[] numbers = {0, 5, -1, Integer.MAX_VALUE, Integer.MIN_VALUE};
        for (int number : numbers) {
            Check.due("number(0, " + number + ")", heap.number(0, number), true);
            Check.due("look(0, 0)", heap.look(0, 0), 0);
            Check.due("look(0, 1)", heap.look(0, 1), number);
        }
        Check.due("number(15, 3)", heap.number(15, 3), true);
        Check.due("look(15, 1)", heap.look(15, 1), 3);

        heap.alloc(1, 2);
        heap.collect(0);
        Check.due("number(1, 3), running", heap.number(1, 3), true);
        Check.due("entries", heap.count(5), 0);
        Check.due("units", heap.count(9), 0);

        String before = Picture.of(heap);
        for (int root : new int[] {-1, 16, Integer.MAX_VALUE, Integer.MIN_VALUE}) {
            Check.due("number(" + root + ", 1)", heap.number(root, 1), false);
            Check.unchanged("number(" + root + ", 1)", heap, before);
        }

        // A number is no place: it stays through a flip, and keeps no object.
        heap.collect(-1);
        Check.due("look(0, 1) behind the flip", heap.look(0, 1), Integer.MIN_VALUE);
        Check.due("look(1, 1) behind the flip", heap.look(1, 1), 3);
        Check.due("used", heap.count(2), 0);
        Check.end();
    }
}
