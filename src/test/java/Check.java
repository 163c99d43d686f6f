/** What the tests of the project share: they note every wrong answer and end with exit code 1 if there was one. */
final class Check {
    static final int IAE = 1;
    static final int ISE = 2;
    static final int IOOBE = 3;

    private static final String[] NAMES = {
        "nothing", "IllegalArgumentException", "IllegalStateException", "IndexOutOfBoundsException"
    };
    private static final int[] EXTREMES = {
        Integer.MIN_VALUE, Integer.MIN_VALUE + 1, Integer.MAX_VALUE - 1, Integer.MAX_VALUE
    };
    private static int wrong = 0;
    private static String sentence = "";

    private Check() {
    }

    interface Call {
        void run();
    }

    interface CallWith {
        void run(int argument);
    }

    interface Answer {
        boolean run();
    }

    /** One sentence of the document and the test of its own; what fails in it by itself does not hide the next one. */
    static void sentence(String text, Call test) {
        sentence = "[" + text + "] ";
        try {
            test.run();
        } catch (RuntimeException e) {
            tell("failed by itself: " + e);
        }
        sentence = "";
    }

    private static void tell(String text) {
        wrong++;
        System.out.println(sentence + text);
    }

    /** The nearest values outside of least .. most, then those where int arithmetic would wrap around. */
    static void eachOutside(int least, int most, CallWith test) {
        test.run(least - 1);
        test.run(most + 1);
        for (int extreme : EXTREMES) {
            test.run(extreme);
        }
    }

    static void due(String call, long got, long want) {
        if (got != want) {
            tell(call + " answered " + got + ", due is " + want);
        }
    }

    static void due(String call, boolean got, boolean want) {
        due(call, got ? 1 : 0, want ? 1 : 0);
    }

    /** The call throws this very exception, and all that can be seen of the heap is as it was. */
    static void refused(String call, ReplicaHeap heap, int exception, Call run) {
        String before = Picture.of(heap);
        threw(call, exception, run);
        unchanged(call, heap, before);
    }

    /** The call throws this very exception, no kind of it and nothing else. */
    static void threw(String call, int exception, Call run) {
        String thrown = NAMES[0];
        try {
            run.run();
        } catch (RuntimeException e) {
            thrown = e.getClass().getSimpleName();
        }
        if (!thrown.equals(NAMES[exception])) {
            tell(call + " threw " + thrown + ", due is " + NAMES[exception]);
        }
    }

    /** The call answers false, and all that can be seen of the heap is as it was. */
    static void denied(String call, ReplicaHeap heap, Answer run) {
        String before = Picture.of(heap);
        due(call, run.run(), false);
        unchanged(call, heap, before);
    }

    static void unchanged(String call, ReplicaHeap heap, String before) {
        same(call + " changed the heap", Picture.of(heap), before);
    }

    static void same(String what, String got, String want) {
        if (!got.equals(want)) {
            tell(what + "\n--- got\n" + got + "\n--- due\n" + want);
        }
    }

    /** All counts 0 .. 12 at once. */
    static void counts(String when, ReplicaHeap heap, int... want) {
        for (int what = 0; what < want.length; what++) {
            due(when + ": count(" + what + ")", heap.count(what), want[what]);
        }
    }

    static void end() {
        if (wrong != 0) {
            System.out.println(wrong + " answers are not as due");
            System.exit(1);
        }
    }
}
