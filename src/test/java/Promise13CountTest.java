/** Promise 13: the counts; the tests of the other promises look at all of them as well. */
public final class Promise13CountTest {
    public static void main(String[] args) {
        ReplicaHeap heap = new ReplicaHeap(40, 3);
        Check.counts("new", heap, 0, 0, 0, 0, 0, 0, 0, 0, 0, 0, 0, 0, 40);
        heap.alloc(0, 4);
        heap.alloc(1, 2);
        heap.put(0, 0, 1);
        Check.counts("two objects", heap, 0, 0, 8, 0, 0, 0, 0, 0, 0, 0, 0, 2, 40);
        heap.collect(6);
        Check.counts("5 to copy, 1 to scan", heap, 0, 1, 8, 5, 1, 0, 0, 0, 0, 6, 6, 2, 40);
        heap.putNumber(1, 1, 4);
        Check.counts("1 to take, 1 to scan, 3 to copy", heap, 0, 1, 8, 8, 2, 1, 1, 0, 0, 11, 6, 2, 40);
        heap.collect(-1);
        Check.counts("6 to scan, the flip", heap, 1, 0, 8, 0, 0, 0, 0, 1, 0, 33, 22, 2, 40);
        heap.alloc(2, 8);
        heap.alloc(3, 5);
        Check.counts("a collection begins", heap, 1, 1, 23, 0, 0, 0, 0, 1, 0, 33, 22, 4, 40);
        heap.number(0, 0);
        heap.number(1, 0);
        heap.number(2, 0);
        heap.alloc(4, 8);
        // 27 to work: 6 to copy, 6 to scan, 9 to copy, 6 to scan.
        Check.counts("a worked allocation", heap, 1, 1, 32, 15, 12, 0, 0, 1, 0, 60, 27, 5, 40);
        heap.alloc(5, 8);
        // The pause: 3 to scan and the flip; 15 and 9 of 40 are beyond half.
        Check.counts("a pause", heap, 0, 1, 24, 0, 0, 0, 0, 2, 1, 79, 27, 6, 40);

        for (int what : new int[] {-1, 13, 14, 100, Integer.MAX_VALUE, Integer.MIN_VALUE}) {
            String before = Picture.of(heap);
            Check.due("count(" + what + ")", heap.count(what), -1);
            Check.unchanged("count(" + what + ")", heap, before);
        }
        Check.end();
    }
}
