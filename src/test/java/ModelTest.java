import java.util.Random;

/** Long mixed runs of 512 calls, after each of which all that can be seen is what the model has. */
public final class ModelTest {
    private static final int RUNS = 400;
    private static final int CALLS = 512;

    public static void main(String[] args) {
        Random random = new Random(20261115);
        int[] seen = new int[4];
        for (int run = 0; run < RUNS; run++) {
            int cells = run % 3 == 0 ? 16 + random.nextInt(20) : 16 + random.nextInt(385);
            int quantum = run % 2 == 0 ? 1 + random.nextInt(4) : 1 + random.nextInt(64);
            int rooted = 1 + random.nextInt(16);
            if (!oneRun(run, random, new ReplicaHeap(cells, quantum), new Model(cells, quantum), rooted, seen)) {
                break;
            }
        }
        // The runs are worth something only if they come by flips, pauses, failed allocations and long logs.
        Check.due("flips were seen", seen[0] > 1000, true);
        Check.due("pauses were seen", seen[1] > 1000, true);
        Check.due("failures were seen", seen[2] > 1000, true);
        Check.due("entries were seen", seen[3] > 1000, true);
        Check.end();
    }

    private static boolean oneRun(int run, Random random, ReplicaHeap heap, Model model, int rooted, int[] seen) {
        for (int call = 0; call < CALLS; call++) {
            String done = oneCall(random, heap, model, rooted, seen);
            String got = Picture.of(heap);
            String want = model.picture();
            Check.same("run " + run + ", call " + call + ": " + done, got, want);
            if (!got.equals(want)) {
                return false;
            }
        }
        seen[0] += heap.count(7);
        seen[1] += heap.count(8);
        return true;
    }

    private static String oneCall(Random random, ReplicaHeap heap, Model model, int rooted, int[] seen) {
        int root = random.nextInt(rooted);
        int from = random.nextInt(rooted);
        int value = random.nextInt(9) - 4;
        Model.Obj object = model.roots[root].object;
        int field = object == null ? 0 : random.nextInt(object.fields.length);
        int pick = random.nextInt(100);
        if (pick < 35 || object == null && pick < 85) {
            int fields = 1 + random.nextInt(8);
            boolean made = model.alloc(root, fields);
            Check.due("alloc(" + root + ", " + fields + ")", heap.alloc(root, fields), made);
            seen[2] += made ? 0 : 1;
            return "alloc " + root + " " + fields;
        }
        if (pick < 65) {
            model.change(root, field, model.roots[from]);
            heap.put(root, field, from);
            seen[3] += model.log.size();
            return "put " + root + " " + field + " " + from;
        }
        if (pick < 75) {
            model.change(root, field, new Model.Val(value, null));
            heap.putNumber(root, field, value);
            return "putNumber " + root + " " + field + " " + value;
        }
        if (pick < 85) {
            model.roots[from] = object.fields[field];
            heap.get(from, root, field);
            return "get " + from + " " + root + " " + field;
        }
        return oneCallOfTheRest(pick, random, heap, model, root, from, value);
    }

    private static String oneCallOfTheRest(
            int pick, Random random, ReplicaHeap heap, Model model, int root, int from, int value) {
        if (pick < 89) {
            model.roots[root] = model.roots[from];
            Check.due("move", heap.move(root, from), true);
            return "move " + root + " " + from;
        }
        if (pick < 94) {
            model.roots[root] = new Model.Val(value, null);
            Check.due("number", heap.number(root, value), true);
            return "number " + root + " " + value;
        }
        int units = random.nextInt(12) - 1;
        Check.due("collect(" + units + ")", heap.collect(units), model.collect(units));
        return "collect " + units;
    }
}
