/** What the tests of the project share: they note every wrong answer and end with exit code 1 if there was one. */
final class Check {
    static final int IAE = 1;
    static final int ISE = 2;
    static final int IOOBE = 3;

    private static final String[] NAMES = {
        "nothing", "IllegalArgumentException", "IllegalStateException", "IndexOutOfBoundsException"
    };
    private static int wrong = 0;

    private Check() {
    }

    interface Call {
        void run();
    }

    static void due(String call, long got, long want) {
        if (got != want) {
            wrong++;
            System.out.println(call + " answered " + got + ", due is " + want);
        }
    }

    static void due(String call, boolean got, boolean want) {
        due(call, got ? 1 : 0, want ? 1 : 0);
    }

    /** The call throws this very exception, and all that can be seen of the heap is as it was. */
    static void refused(String call, ReplicaHeap heap, int exception, Call run) {
        String before = Picture.of(heap);
        int thrown = 0;
        try {
            run.run();
        } catch (IllegalArgumentException e) {
            thrown = IAE;
        } catch (IllegalStateException e) {
            thrown = ISE;
        } catch (IndexOutOfBoundsException e) {
            thrown = IOOBE;
        }
        if (thrown != exception) {
            wrong++;
            System.out.println(call + " threw " + NAMES[thrown] + ", due is " + NAMES[exception]);
        }
        unchanged(call, heap, before);
    }

    static void unchanged(String call, ReplicaHeap heap, String before) {
        same(call + " changed the heap", Picture.of(heap), before);
    }

    static void same(String what, String got, String want) {
        if (!got.equals(want)) {
            wrong++;
            System.out.println(what + "\n--- got\n" + got + "\n--- due\n" + want);
        }
    }

    /** All counts 0 .. 12 at once. */
    static void counts(String when, ReplicaHeap heap, int... want) {
        for (int what = 0; what < want.length; what++) {
            due(when + ": count(" + what + ")", heap.count(what), want[what]);
        }
    }

    static void end() {
        if (wrong != 0) {
            System.out.println(wrong + " answers are not as due");
            System.exit(1);
        }
    }
}
