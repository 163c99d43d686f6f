/** Promise 8: the bounds of units, and the answer. */
public final class Edge08CollectTest {
    public static void main(String[] args) {
        Check.sentence("made to begin, if none is running: even for 0 units", Edge08CollectTest::begins);
        Check.sentence("if none is running: a running one goes on", Edge08CollectTest::goesOn);
        Check.sentence("works for so many units: the least", Edge08CollectTest::leastUnits);
        Check.sentence("works for so many units: the most", Edge08CollectTest::mostUnits);
        Check.sentence("with NONE, is finished", Edge08CollectTest::finishes);
        Check.sentence("with NONE: no pause", Edge08CollectTest::noPause);
        Check.sentence("how many units were done: of this call alone", Edge08CollectTest::answersItsOwnUnits);
        Check.sentence("of an empty heap", Edge08CollectTest::emptyHeap);
        Check.sentence("units below NONE", Edge08CollectTest::belowNone);
        Check.end();
    }

    private static void begins() {
        ReplicaHeap heap = new ReplicaHeap(64, 1);
        heap.alloc(0, 1);
        Check.due("collect(0)", heap.collect(0), 0);
        Check.counts("begun", heap, 0, 1, 2, 0, 0, 0, 0, 0, 0, 0, 0, 1, 64);
    }

    private static void goesOn() {
        ReplicaHeap heap = Heaps.running();
        String before = Picture.of(heap);
        Check.due("collect(0)", heap.collect(0), 0);
        Check.unchanged("collect(0)", heap, before);
        int scan = heap.count(4);
        Check.due("collect(1)", heap.collect(1), 1);
        Check.due("scan", heap.count(4), scan + 1);
        Check.due("entries", heap.count(5), 2);
        ReplicaHeap begun = Heaps.full(1);
        Check.due("one that an allocation began", begun.collect(8 + 8), 8 + 8);
        Check.due("scan", begun.count(4), 8);
    }

    private static void leastUnits() {
        ReplicaHeap heap = Heaps.scanning(1);
        Check.due("collect(1)", heap.collect(1), 1);
        Check.due("scan", heap.count(4), 10);
    }

    private static void mostUnits() {
        ReplicaHeap heap = Heaps.chain(1, 44);
        Check.due("collect", heap.collect(Integer.MAX_VALUE), 396 + 396 + 16);
        Check.due("flips", heap.count(1), 0);
    }

    private static void finishes() {
        ReplicaHeap heap = Heaps.scanning(1);
        Check.due("collect(-1), running", heap.collect(-1), 72 + 16);
        Check.due("running", heap.count(1), 0);
        Check.due("collect(-1), at rest", heap.collect(ReplicaHeap.NONE), 81 + 81 + 16);
        Check.due("flips", heap.count(7), 2);
    }

    private static void noPause() {
        ReplicaHeap heap = Heaps.full(1);
        heap.collect(-1);
        heap.collect(-1);
        heap.collect(Integer.MAX_VALUE);
        Check.due("pauses", heap.count(8), 0);
        Check.due("flips", heap.count(7), 3);
    }

    private static void answersItsOwnUnits() {
        ReplicaHeap heap = Heaps.scanning(5);
        heap.putNumber(0, 0, 1);
        heap.alloc(2, 1);
        Check.due("collect(3)", heap.collect(3), 3);
        Check.due("collect(0)", heap.collect(0), 0);
        Check.due("collect(4)", heap.collect(4), 4);
    }

    private static void emptyHeap() {
        for (int units : new int[] {-1, 1, 16, 17, Integer.MAX_VALUE}) {
            ReplicaHeap heap = new ReplicaHeap(16, 1);
            Check.due("collect(" + units + ")", heap.collect(units), 16);
            Check.counts("flipped", heap, 1, 0, 0, 0, 0, 0, 0, 1, 0, 16, 16, 0, 16);
        }
        ReplicaHeap heap = new ReplicaHeap(16, 1);
        Check.due("collect(0)", heap.collect(0), 0);
        Check.due("running", heap.count(1), 1);
    }

    private static void belowNone() {
        int[] below = {-2, -3, -16, Integer.MIN_VALUE + 1, Integer.MIN_VALUE};
        ReplicaHeap[] heaps = {new ReplicaHeap(16, 1), Heaps.running(), Heaps.full(1), Heaps.fullAtRest(1)};
        for (ReplicaHeap heap : heaps) {
            for (int units : below) {
                Check.refused("collect(" + units + ")", heap, Check.IAE, () -> heap.collect(units));
            }
        }
    }
}
