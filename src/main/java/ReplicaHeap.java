/**
 * A heap of two halves whose objects are replicated step by step while the program goes on with the originals.
 * While a collection runs, every reference of the current space and of the roots stays within the current space;
 * only the copies may refer to either space, and at the flip no copy refers back any more.
 */
public final class ReplicaHeap {
    public static final int NONE = -1;

    private static final int ROOTS = 16;
    private static final int MOST_FIELDS = 8;
    private static final int FLIP_UNITS = 16;
    private static final int MOST_CALLS = 512;

    // Kinds of cells, numbered as the answers of cell are; a reference to space s is REFERENCE + s.
    private static final int NUMBER = 0;
    private static final int REFERENCE = 1;
    private static final int HEADER = 3;

    // Both stand far above what one collection of 400 cells and 512 entries needs.
    private static final int UNTIL_FLIP = 1000000;
    private static final int MOST_STEPS = 1000000;

    private final int cells;
    private final int quantum;
    private final boolean[] rootRefers = new boolean[ROOTS];
    private final int[] rootValues = new int[ROOTS];
    private final Log log = new Log();
    private Space current;
    private Space other;
    private boolean running;
    private int scan;
    private int flips;
    private int pauses;
    private int made;
    private int unitsSoFar;
    private int unitsOfCall;
    private int mostUnits;

    public ReplicaHeap(int cells, int quantum) {
        this.cells = cells >= 16 && cells <= 400 ? cells : 64;
        this.quantum = quantum >= 1 && quantum <= 64 ? quantum : 4;
        current = new Space(0, this.cells);
        other = new Space(1, this.cells);
    }

    public boolean alloc(int root, int fields) throws IllegalArgumentException {
        if (!isRoot(root) || fields < 1 || fields > MOST_FIELDS) {
            throw new IllegalArgumentException();
        }
        unitsOfCall = 0;
        makeRoom(fields);
        if (!current.hasRoom(fields)) {
            return false;
        }
        // The root has the object before any work: a flip in that work must bring it along.
        setRoot(root, true, current.layObject(fields));
        made++;
        // makeRoom leaves no new collection running, so a running one is from before this call.
        if (running) {
            work(quantum * (fields + 1));
        } else if (current.used * 2 > cells) {
            running = true;
        }
        return true;
    }

    public void put(int root, int field, int from) throws IllegalArgumentException, IllegalStateException {
        if (!isRoot(root) || !isRoot(from)) {
            throw new IllegalArgumentException();
        }
        if (!hasField(root, field)) {
            throw new IllegalStateException();
        }
        int kind = rootRefers[from] ? REFERENCE + current.index : NUMBER;
        change(rootValues[root], field, kind, rootValues[from]);
    }

    public void putNumber(int root, int field, int value) throws IllegalArgumentException, IllegalStateException {
        if (!isRoot(root)) {
            throw new IllegalArgumentException();
        }
        if (!hasField(root, field)) {
            throw new IllegalStateException();
        }
        change(rootValues[root], field, NUMBER, value);
    }

    public void get(int into, int root, int field) throws IllegalArgumentException, IllegalStateException {
        if (!isRoot(into) || !isRoot(root)) {
            throw new IllegalArgumentException();
        }
        if (!hasField(root, field)) {
            throw new IllegalStateException();
        }
        int place = rootValues[root] + 1 + field;
        setRoot(into, current.kinds[place] != NUMBER, current.values[place]);
    }

    public boolean move(int into, int root) {
        if (!isRoot(into) || !isRoot(root)) {
            return false;
        }
        setRoot(into, rootRefers[root], rootValues[root]);
        return true;
    }

    public boolean number(int root, int value) {
        if (!isRoot(root)) {
            return false;
        }
        setRoot(root, false, value);
        return true;
    }

    public int collect(int units) throws IllegalArgumentException {
        if (units < NONE) {
            throw new IllegalArgumentException();
        }
        unitsOfCall = 0;
        running = true;
        work(units == NONE ? UNTIL_FLIP : units);
        return unitsOfCall;
    }

    public int look(int root, int what) throws IndexOutOfBoundsException {
        if (!isRoot(root) || what < 0 || what > 3) {
            throw new IndexOutOfBoundsException();
        }
        boolean refers = rootRefers[root];
        int value = rootValues[root];
        switch (what) {
            case 0:
                return refers ? 1 : 0;
            case 1:
                return value;
            case 2:
                return refers ? current.values[value] : 0;
            default:
                return refers ? current.replicas[value] : NONE;
        }
    }

    public int field(int root, int field, int what) throws IndexOutOfBoundsException {
        if (!isRoot(root) || !hasField(root, field) || what < 0 || what > 1) {
            throw new IndexOutOfBoundsException();
        }
        int place = rootValues[root] + 1 + field;
        if (what == 0) {
            return current.kinds[place] != NUMBER ? 1 : 0;
        }
        return current.values[place];
    }

    public int cell(int space, int place, int what) throws IndexOutOfBoundsException {
        if (space < 0 || space > 1 || what < 0 || what > 2) {
            throw new IndexOutOfBoundsException();
        }
        Space asked = space == current.index ? current : other;
        if (place < 0 || place >= asked.used) {
            throw new IndexOutOfBoundsException();
        }
        switch (what) {
            case 0:
                return asked.kinds[place];
            case 1:
                return asked.values[place];
            default:
                return asked.kinds[place] == HEADER ? asked.replicas[place] : NONE;
        }
    }

    public int entry(int i, int what) throws IndexOutOfBoundsException {
        if (i < 0 || i >= log.size || what < 0 || what > 1) {
            throw new IndexOutOfBoundsException();
        }
        return what == 0 ? log.places[i] : log.fields[i];
    }

    public int count(int what) {
        switch (what) {
            case 0:
                return current.index;
            case 1:
                return running ? 1 : 0;
            case 2:
                return current.used;
            case 3:
                return other.used;
            case 4:
                return scan;
            case 5:
                return log.size;
            case 6:
                return log.taken;
            case 7:
                return flips;
            case 8:
                return pauses;
            case 9:
                return unitsSoFar;
            case 10:
                return mostUnits;
            case 11:
                return made;
            case 12:
                return cells;
            default:
                return NONE;
        }
    }

    private static boolean isRoot(int root) {
        return root >= 0 && root < ROOTS;
    }

    private boolean hasField(int root, int field) {
        return rootRefers[root] && field >= 0 && field < current.values[rootValues[root]];
    }

    private void setRoot(int root, boolean refers, int value) {
        rootRefers[root] = refers;
        rootValues[root] = value;
    }

    private void makeRoom(int fields) {
        if (running && !current.hasRoom(fields)) {
            pauses++;
            work(UNTIL_FLIP);
        }
        // What died while the first collection ran may be left over: a whole new one frees that too.
        if (!current.hasRoom(fields)) {
            running = true;
            pauses++;
            work(UNTIL_FLIP);
        }
    }

    private void change(int object, int field, int kind, int value) {
        current.setCell(object + 1 + field, kind, value);
        if (running) {
            unitsOfCall = 0;
            log.add(object, field);
            work(quantum);
        }
    }

    private void work(int units) {
        int done = 0;
        for (int steps = 0; running && done < units && steps < MOST_STEPS; steps++) {
            done += step();
        }
        unitsSoFar += done;
        unitsOfCall += done;
        mostUnits = Math.max(mostUnits, unitsOfCall);
    }

    // This and what it calls answer the units that were done.
    private int step() {
        if (log.taken < log.size) {
            return takeEntry();
        }
        if (scan < other.used) {
            scan++;
            return 1 + forward(scan - 1);
        }
        int root = rootWithoutReplica();
        if (root != NONE) {
            return replicate(rootValues[root]);
        }
        flip();
        return FLIP_UNITS;
    }

    private int takeEntry() {
        int object = log.places[log.taken];
        int behind = 1 + log.fields[log.taken];
        log.taken++;
        int replica = current.replicas[object];
        if (replica == NONE) {
            return 1;
        }
        other.setCell(replica + behind, current.kinds[object + behind], current.values[object + behind]);
        return 1 + forward(replica + behind);
    }

    private int forward(int place) {
        if (other.kinds[place] != REFERENCE + current.index) {
            return 0;
        }
        int object = other.values[place];
        int units = current.replicas[object] == NONE ? replicate(object) : 0;
        other.setCell(place, REFERENCE + other.index, current.replicas[object]);
        return units;
    }

    // There is always room: no object has two replicas, and the spaces are equally large.
    private int replicate(int object) {
        int size = current.values[object] + 1;
        int replica = other.used;
        for (int i = 0; i < size; i++) {
            other.kinds[replica + i] = current.kinds[object + i];
            other.values[replica + i] = current.values[object + i];
        }
        other.replicas[replica] = NONE;
        other.used += size;
        current.replicas[object] = replica;
        return size;
    }

    private int rootWithoutReplica() {
        for (int root = 0; root < ROOTS; root++) {
            if (rootRefers[root] && current.replicas[rootValues[root]] == NONE) {
                return root;
            }
        }
        return NONE;
    }

    private void flip() {
        for (int root = 0; root < ROOTS; root++) {
            if (rootRefers[root]) {
                rootValues[root] = current.replicas[rootValues[root]];
            }
        }
        Space left = current;
        current = other;
        other = left;
        other.used = 0;
        running = false;
        scan = 0;
        log.clear();
        flips++;
    }

    private static final class Space {
        private final int index;
        private final int[] kinds;
        private final int[] values;
        private final int[] replicas;
        private int used;

        private Space(int index, int cells) {
            this.index = index;
            kinds = new int[cells];
            values = new int[cells];
            replicas = new int[cells];
        }

        private boolean hasRoom(int fields) {
            return used + fields + 1 <= kinds.length;
        }

        private int layObject(int fields) {
            int place = used;
            setCell(place, HEADER, fields);
            replicas[place] = NONE;
            for (int i = 1; i <= fields; i++) {
                setCell(place + i, NUMBER, 0);
            }
            used += fields + 1;
            return place;
        }

        private void setCell(int place, int kind, int value) {
            kinds[place] = kind;
            values[place] = value;
        }
    }

    private static final class Log {
        private final int[] places = new int[MOST_CALLS];
        private final int[] fields = new int[MOST_CALLS];
        private int size;
        private int taken;

        private void add(int place, int field) {
            // Full only beyond the 512th call; every change takes its own entry at once, so none is lost.
            if (size >= MOST_CALLS) {
                clear();
            }
            places[size] = place;
            fields[size] = field;
            size++;
        }

        private void clear() {
            size = 0;
            taken = 0;
        }
    }
}
