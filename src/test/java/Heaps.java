/** Heaps in states that several tests begin with. */
final class Heaps {
    private Heaps() {
    }

    /**
     * Root 0 has an object of references to 8 objects of 8 numbers, the last of which is root 1's. All are copied, and
     * 72 numbers and headers are left to scan, one unit each: work of up to 72 units is done to the very unit.
     */
    static ReplicaHeap scanning(int quantum) {
        ReplicaHeap heap = new ReplicaHeap(400, quantum);
        heap.alloc(0, 8);
        for (int field = 0; field < 8; field++) {
            heap.alloc(1, 8);
            heap.put(0, field, 1);
        }
        heap.collect(9 + 9 + 8 * 9);
        Check.due("cells left to scan", heap.count(3) - heap.count(4), 72);
        return heap;
    }

    /** 400 cells with so many objects of 8 fields, each referring to the one before; root 0 has the last; at rest. */
    static ReplicaHeap chain(int quantum, int objects) {
        ReplicaHeap heap = new ReplicaHeap(400, quantum);
        for (int i = 0; i < objects; i++) {
            heap.alloc(1, 8);
            heap.put(1, 0, 0);
            heap.move(0, 1);
        }
        heap.number(1, 0);
        heap.collect(-1);
        Check.due("cells of the chain", heap.count(2), 9 * objects);
        return heap;
    }

    /** 16 cells, filled by the objects of roots 0 and 1 (7 fields each); a collection has begun and not worked. */
    static ReplicaHeap full(int quantum) {
        ReplicaHeap heap = new ReplicaHeap(16, quantum);
        heap.alloc(0, 7);
        heap.alloc(1, 7);
        Check.due("cells used", heap.count(2), 16);
        Check.due("running", heap.count(1), 1);
        return heap;
    }

    /** The same behind a flip (48 units): none is running. */
    static ReplicaHeap fullAtRest(int quantum) {
        ReplicaHeap heap = full(quantum);
        heap.collect(-1);
        Check.due("cells used at rest", heap.count(2), 16);
        return heap;
    }

    /** Objects of 1, 8 and 2 fields at roots 0, 1 and 15, a number at root 2; running, two changes logged. */
    static ReplicaHeap running() {
        ReplicaHeap heap = new ReplicaHeap(64, 1);
        heap.alloc(0, 1);
        heap.alloc(1, 8);
        heap.alloc(15, 2);
        heap.number(2, 2);
        heap.put(1, 0, 15);
        heap.collect(6);
        heap.putNumber(0, 0, 3);
        heap.put(15, 1, 1);
        Check.due("running", heap.count(1), 1);
        Check.due("entries", heap.count(5), 2);
        return heap;
    }
}
