import java.util.ArrayList;
import java.util.List;

/**
 * The document once more, written over a graph of objects instead of rows of cells, so that a slip in the one is
 * no slip in the other. It answers with its picture alone; calls that throw are not its business.
 */
final class Model {
    static final class Obj {
        final int space;
        final int place;
        final Val[] fields;
        Obj replica;

        Obj(int space, int place, int size) {
            this.space = space;
            this.place = place;
            fields = new Val[size];
        }
    }

    static final class Val {
        static final Val ZERO = new Val(0, null);
        final int number;
        final Obj object;

        Val(int number, Obj object) {
            this.number = number;
            this.object = object;
        }

        int shown() {
            return object == null ? number : object.place;
        }

        int kind() {
            return object == null ? 0 : 1 + object.space;
        }
    }

    static final class Entry {
        final Obj object;
        final int field;

        Entry(Obj object, int field) {
            this.object = object;
            this.field = field;
        }
    }

    final int cells;
    final int quantum;
    final Val[] roots = new Val[16];
    final List<Obj> seen = new ArrayList<>();
    final List<Obj> copies = new ArrayList<>();
    final List<Entry> log = new ArrayList<>();
    int part = 0;
    boolean running = false;
    int scan = 0;
    int taken = 0;
    int flips = 0;
    int pauses = 0;
    int units = 0;
    int most = 0;
    int made = 0;

    Model(int cells, int quantum) {
        this.cells = cells;
        this.quantum = quantum;
        java.util.Arrays.fill(roots, Val.ZERO);
    }

    static int size(List<Obj> objects) {
        int sum = 0;
        for (Obj o : objects) {
            sum += o.fields.length + 1;
        }
        return sum;
    }

    boolean left(int n) {
        return cells - size(seen) >= n + 1;
    }

    boolean alloc(int root, int n) {
        int before = units;
        boolean ranBefore = running;
        if (!left(n)) {
            if (running) {
                pauses++;
                finish();
            }
            if (!left(n)) {
                running = true;
                pauses++;
                finish();
            }
        }
        boolean fits = left(n);
        if (fits) {
            Obj o = new Obj(part, size(seen), n);
            java.util.Arrays.fill(o.fields, Val.ZERO);
            seen.add(o);
            made++;
            roots[root] = new Val(0, o);
            if (ranBefore && running) {
                workFor(quantum * (n + 1));
            } else if (size(seen) > cells - size(seen)) {
                running = true;
            }
        }
        most = Math.max(most, units - before);
        return fits;
    }

    void change(int root, int field, Val value) {
        int before = units;
        Obj o = roots[root].object;
        o.fields[field] = value;
        if (running) {
            log.add(new Entry(o, field));
            workFor(quantum);
        }
        most = Math.max(most, units - before);
    }

    int collect(int wanted) {
        int before = units;
        running = true;
        if (wanted == -1) {
            finish();
        } else {
            workFor(wanted);
        }
        most = Math.max(most, units - before);
        return units - before;
    }

    void workFor(int wanted) {
        int before = units;
        while (running && units - before < wanted) {
            step();
        }
    }

    void finish() {
        while (running) {
            step();
        }
    }

    void step() {
        if (taken < log.size()) {
            Entry e = log.get(taken++);
            units++;
            if (e.object.replica != null) {
                e.object.replica.fields[e.field] = replicated(e.object.fields[e.field]);
            }
            return;
        }
        if (scan < size(copies)) {
            units++;
            int at = scan++;
            for (Obj o : copies) {
                int field = at - o.place - 1;
                if (field >= 0 && field < o.fields.length) {
                    o.fields[field] = replicated(o.fields[field]);
                    return;
                }
            }
            return;
        }
        for (Val root : roots) {
            if (root.object != null && root.object.replica == null) {
                replicated(root);
                return;
            }
        }
        flip();
    }

    Val replicated(Val value) {
        if (value.object == null || value.object.space != part) {
            return value;
        }
        Obj o = value.object;
        if (o.replica == null) {
            Obj copy = new Obj(1 - part, size(copies), o.fields.length);
            System.arraycopy(o.fields, 0, copy.fields, 0, o.fields.length);
            copies.add(copy);
            o.replica = copy;
            units += o.fields.length + 1;
        }
        return new Val(0, o.replica);
    }

    void flip() {
        units += 16;
        flips++;
        for (int i = 0; i < 16; i++) {
            roots[i] = replicated(roots[i]);
        }
        seen.clear();
        seen.addAll(copies);
        copies.clear();
        log.clear();
        part = 1 - part;
        running = false;
        scan = 0;
        taken = 0;
    }

    String picture() {
        StringBuilder text = new StringBuilder();
        int[] counts = {
            part, running ? 1 : 0, size(seen), size(copies), scan, log.size(), taken, flips, pauses, units, most,
            made, cells
        };
        for (int c : counts) {
            text.append(c).append(' ');
        }
        text.append("\nroots");
        for (Val root : roots) {
            addRoot(text, root);
        }
        for (int space = 0; space < 2; space++) {
            text.append("\nspace ").append(space).append(':');
            for (Obj o : space == part ? seen : copies) {
                addObject(text, o);
            }
        }
        text.append("\nlog:");
        for (Entry e : log) {
            text.append(' ').append(e.object.place).append('.').append(e.field);
        }
        return text.toString();
    }

    private static void addRoot(StringBuilder text, Val root) {
        Obj o = root.object;
        text.append(' ').append(o == null ? 0 : 1).append(',').append(root.shown());
        text.append(',').append(o == null ? 0 : o.fields.length);
        text.append(',').append(o == null || o.replica == null ? -1 : o.replica.place);
        for (int i = 0; o != null && i < o.fields.length; i++) {
            text.append(i == 0 ? "[" : " ").append(o.fields[i].object == null ? 0 : 1);
            text.append(':').append(o.fields[i].shown());
        }
        text.append(o == null ? "" : "]");
    }

    private static void addObject(StringBuilder text, Obj o) {
        text.append(" 3,").append(o.fields.length).append(',').append(o.replica == null ? -1 : o.replica.place);
        for (Val v : o.fields) {
            text.append(' ').append(v.kind()).append(',').append(v.shown()).append(",-1");
        }
    }
}
