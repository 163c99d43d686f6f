/** Promise 6: a root becomes what another one has. */
public final class Promise06MoveTest {
    public static void main(String[] args) {
        ReplicaHeap heap = new ReplicaHeap(64, 4);
        heap.alloc(0, 2);
        heap.alloc(1, 3);
        heap.number(2, 6);
        Check.due("move(15, 1)", heap.move(15, 1), true);
        Check.due("look(15, 0)", heap.look(15, 0), 1);
        Check.due("look(15, 1)", heap.look(15, 1), 3);
        Check.due("look(1, 1) is left", heap.look(1, 1), 3);
        Check.due("move(0, 2)", heap.move(0, 2), true);
        Check.due("look(0, 0)", heap.look(0, 0), 0);
        Check.due("look(0, 1)", heap.look(0, 1), 6);
        Check.due("move(15, 15)", heap.move(15, 15), true);
        Check.due("look(15, 1) is left", heap.look(15, 1), 3);

        heap.collect(1);
        int units = heap.count(9);
        Check.due("move(4, 1), running", heap.move(4, 1), true);
        Check.due("entries", heap.count(5), 0);
        Check.due("units", heap.count(9), units);

        String before = Picture.of(heap);
        int[][] wrong = {{-1, 0}, {0, -1}, {16, 0}, {0, 16}, {Integer.MAX_VALUE, 0}, {0, Integer.MIN_VALUE}, {16, 16}};
        for (int[] row : wrong) {
            String call = "move(" + row[0] + ", " + row[1] + ")";
            Check.due(call, heap.move(row[0], row[1]), false);
            Check.unchanged(call, heap, before);
        }
        Check.end();
    }
}
