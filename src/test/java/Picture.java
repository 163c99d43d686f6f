/** All that can be seen of a heap, as a text; looking changes nothing, so a test may look as often as it likes. */
final class Picture {
    private Picture() {
    }

    static String of(ReplicaHeap heap) {
        StringBuilder text = new StringBuilder();
        for (int what = 0; what <= 12; what++) {
            text.append(heap.count(what)).append(' ');
        }
        text.append("\nroots");
        for (int root = 0; root < 16; root++) {
            addRoot(text, heap, root);
        }
        for (int space = 0; space < 2; space++) {
            text.append("\nspace ").append(space).append(':');
            addSpace(text, heap, space);
        }
        text.append("\nlog:");
        for (int i = 0; i < heap.count(5); i++) {
            text.append(' ').append(heap.entry(i, 0)).append('.').append(heap.entry(i, 1));
        }
        return text.toString();
    }

    private static void addRoot(StringBuilder text, ReplicaHeap heap, int root) {
        text.append(' ');
        for (int what = 0; what < 4; what++) {
            text.append(heap.look(root, what)).append(what < 3 ? "," : "");
        }
        for (int field = 0; field < heap.look(root, 2); field++) {
            text.append(field == 0 ? "[" : " ").append(heap.field(root, field, 0));
            text.append(':').append(heap.field(root, field, 1));
        }
        text.append(heap.look(root, 2) > 0 ? "]" : "");
    }

    private static void addSpace(StringBuilder text, ReplicaHeap heap, int space) {
        int used = heap.count(space == heap.count(0) ? 2 : 3);
        for (int place = 0; place < used; place++) {
            text.append(' ').append(heap.cell(space, place, 0));
            text.append(',').append(heap.cell(space, place, 1));
            text.append(',').append(heap.cell(space, place, 2));
        }
    }
}
