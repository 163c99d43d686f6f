import java.util.Random;

/** LANGUAGE.md, rule 7: beyond the 512th call answers are free, but no call fails by itself. */
public final class BeyondTest {
    public static void main(String[] args) {
        ReplicaHeap heap = new ReplicaHeap(400, 1);
        heap.alloc(0, 8);
        heap.collect(0);
        // With a quantum of 1 a change pays for its own entry alone: the collection stays, the log outgrows 512.
        for (int i = 0; i < 1000; i++) {
            heap.putNumber(0, 0, i);
            heap.collect(0);
            Picture.of(heap);
        }
        Random random = new Random(7);
        for (int i = 0; i < 20000; i++) {
            anyCall(random, heap);
        }
        Picture.of(heap);
        Check.end();
    }

    private static void anyCall(Random random, ReplicaHeap heap) {
        int a = random.nextInt(19) - 1;
        int b = random.nextInt(11) - 1;
        int c = random.nextInt(19) - 1;
        int pick = random.nextInt(12);
        int thrown = 0;
        try {
            switch (pick) {
                case 0: heap.alloc(a, b); break;
                case 1: heap.put(a, b, c); break;
                case 2: heap.putNumber(a, b, c); break;
                case 3: heap.get(a, c, b); break;
                case 4: heap.move(a, c); break;
                case 5: heap.number(a, b); break;
                case 6: heap.collect(b - 1); break;
                case 7: heap.look(a, b); break;
                case 8: heap.field(a, b, c); break;
                case 9: heap.cell(b, a, c); break;
                case 10: heap.entry(a, b); break;
                default: heap.count(a); break;
            }
        } catch (IllegalArgumentException e) {
            thrown = 1;
        } catch (IllegalStateException e) {
            thrown = 2;
        } catch (IndexOutOfBoundsException e) {
            // The library's own ones carry a text; the heap's have none.
            Check.due("a text of an exception", e.getMessage() == null, true);
            thrown = 3;
        }
        int allowed = pick == 0 || pick == 6 ? 1 : pick <= 3 ? 2 : pick >= 7 && pick <= 10 ? 3 : 0;
        Check.due("call " + pick + " threw " + thrown, thrown == 0 || thrown == allowed || allowed == 2 && thrown == 1,
            true);
    }
}
