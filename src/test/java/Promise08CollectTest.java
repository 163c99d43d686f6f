/** Promise 8: a collection is made to begin and works, step by step, or is finished. */
public final class Promise08CollectTest {
    public static void main(String[] args) {
        beginsAndWorksStepByStep();
        finishesWithoutAPause();
        flipsAnEmptyHeap();
        endsAtTheFlip();
        copiesCyclesAndSharedObjectsOnce();
        takesRootsInTheirOrder();
        copiesWhatCameSince();
        refusesWrongInputs();
        Check.end();
    }

    private static void beginsAndWorksStepByStep() {
        ReplicaHeap heap = new ReplicaHeap(64, 4);
        heap.alloc(0, 2);
        heap.alloc(1, 1);
        heap.put(0, 1, 1);
        Check.due("collect(0)", heap.collect(0), 0);
        Check.counts("begun", heap, 0, 1, 5, 0, 0, 0, 0, 0, 0, 0, 0, 2, 64);
        Check.due("collect(0) again", heap.collect(0), 0);
        Check.due("root 0", heap.collect(1), 3);
        Check.due("its header", heap.collect(1), 1);
        Check.due("its number", heap.collect(1), 1);
        Check.counts("two cells scanned", heap, 0, 1, 5, 3, 2, 0, 0, 0, 0, 5, 3, 2, 64);
        Check.due("its reference", heap.collect(1), 3);
        Check.counts("three cells scanned", heap, 0, 1, 5, 5, 3, 0, 0, 0, 0, 8, 3, 2, 64);
        Check.due("the other's cells", heap.collect(2), 2);
        Check.due("the flip", heap.collect(1), 16);
        Check.counts("flipped", heap, 1, 0, 5, 0, 0, 0, 0, 1, 0, 26, 16, 2, 64);
    }

    private static void finishesWithoutAPause() {
        ReplicaHeap heap = new ReplicaHeap(64, 4);
        heap.alloc(0, 2);
        heap.collect(4);
        Check.due("collect(-1)", heap.collect(-1), 2 + 16);
        Check.counts("finished", heap, 1, 0, 3, 0, 0, 0, 0, 1, 0, 22, 18, 1, 64);
        Check.due("collect(-1) of a new one", heap.collect(-1), 3 + 3 + 16);
        Check.counts("finished again", heap, 0, 0, 3, 0, 0, 0, 0, 2, 0, 44, 22, 1, 64);
    }

    private static void flipsAnEmptyHeap() {
        ReplicaHeap heap = new ReplicaHeap(16, 1);
        Check.due("collect(1)", heap.collect(1), 16);
        Check.counts("flipped", heap, 1, 0, 0, 0, 0, 0, 0, 1, 0, 16, 16, 0, 16);
    }

    private static void endsAtTheFlip() {
        ReplicaHeap heap = new ReplicaHeap(64, 4);
        heap.alloc(0, 1);
        Check.due("collect of the most", heap.collect(Integer.MAX_VALUE), 2 + 2 + 16);
        Check.due("running", heap.count(1), 0);
        Check.due("flips", heap.count(7), 1);
        Check.due("one short of the flip", heap.collect(4), 4);
        Check.due("still running", heap.count(1), 1);
        Check.due("one more", heap.collect(1), 16);
    }

    private static void copiesCyclesAndSharedObjectsOnce() {
        ReplicaHeap heap = new ReplicaHeap(64, 4);
        heap.alloc(0, 2);
        heap.alloc(1, 2);
        heap.put(0, 0, 1);
        heap.put(0, 1, 1);
        heap.put(1, 0, 0);
        heap.put(1, 1, 1);
        heap.alloc(2, 3);
        heap.number(2, 0);
        Check.due("collect(-1)", heap.collect(-1), 6 + 6 + 16);
        Check.due("used", heap.count(2), 6);
        Check.due("field(0, 0, 1)", heap.field(0, 0, 1), 3);
        Check.due("field(0, 1, 1)", heap.field(0, 1, 1), 3);
        Check.due("field(1, 0, 1)", heap.field(1, 0, 1), 0);
        Check.due("field(1, 1, 1)", heap.field(1, 1, 1), 3);
        Check.due("look(1, 1)", heap.look(1, 1), 3);
    }

    private static void takesRootsInTheirOrder() {
        ReplicaHeap heap = new ReplicaHeap(64, 4);
        heap.alloc(15, 1);
        heap.alloc(3, 2);
        heap.alloc(0, 3);
        heap.move(1, 15);
        heap.collect(-1);
        Check.due("look(0, 1)", heap.look(0, 1), 0);
        Check.due("look(1, 1)", heap.look(1, 1), 4);
        Check.due("look(3, 1)", heap.look(3, 1), 6);
        Check.due("look(15, 1)", heap.look(15, 1), 4);
    }

    private static void copiesWhatCameSince() {
        ReplicaHeap heap = new ReplicaHeap(64, 1);
        heap.alloc(5, 1);
        heap.collect(4);
        heap.alloc(0, 1);
        Check.due("a lesser root is copied behind", heap.look(0, 3), 2);
        heap.number(5, 0);
        heap.collect(-1);
        // What died behind its copy stays until the next collection.
        Check.due("used", heap.count(2), 4);
        Check.due("look(0, 1)", heap.look(0, 1), 2);
        heap.collect(-1);
        Check.due("used behind the next", heap.count(2), 2);
        Check.due("look(0, 1) behind the next", heap.look(0, 1), 0);
    }

    private static void refusesWrongInputs() {
        ReplicaHeap heap = new ReplicaHeap(64, 1);
        heap.alloc(0, 2);
        for (int units : new int[] {-2, -3, Integer.MIN_VALUE}) {
            Check.refused("collect(" + units + ")", heap, Check.IAE, () -> heap.collect(units));
        }
        heap.collect(1);
        Check.refused("collect(-2), running", heap, Check.IAE, () -> heap.collect(-2));
    }
}
