/** "Terms": to replicate, and the four kinds of steps, each with its bounds and its turn. */
public final class EdgeStepTest {
    public static void main(String[] args) {
        Check.sentence("to replicate: as many units as fields, and 1", EdgeStepTest::unitsOfReplicating);
        Check.sentence("to replicate: behind what is used", EdgeStepTest::copiesBehindWhatIsUsed);
        Check.sentence("to replicate: references as they are", EdgeStepTest::copiesReferencesAsTheyAre);
        Check.sentence("to replicate: the copy has no replica", EdgeStepTest::copyHasNoReplica);
        Check.sentence("to replicate: none that has a replica", EdgeStepTest::replicatesOnce);
        Check.sentence("to replicate: up to the last cell", EdgeStepTest::fillsTheOtherSpace);
        takeSentences();
        scanSentences();
        rootSentences();
        flipSentences();
        Check.end();
    }

    private static void takeSentences() {
        Check.sentence("take: 1 unit and no more without a replica", EdgeStepTest::takesWithoutReplica);
        Check.sentence("take: the replica's field becomes the object's", EdgeStepTest::takesNumbers);
        Check.sentence("take: a reference without replica is replicated", EdgeStepTest::takesAndReplicates);
        Check.sentence("take: a reference with a replica is not", EdgeStepTest::takesAndRefers);
        Check.sentence("take: a reference to the object itself", EdgeStepTest::takesReferenceToItself);
        Check.sentence("take: ahead of scan, root and flip", EdgeStepTest::takesFirst);
    }

    private static void scanSentences() {
        Check.sentence("scan: headers stay", EdgeStepTest::scansHeader);
        Check.sentence("scan: numbers stay, even one that is a place", EdgeStepTest::scansNumbers);
        Check.sentence("scan: a reference without replica is replicated", EdgeStepTest::scansAndReplicates);
        Check.sentence("scan: a reference with a replica is not", EdgeStepTest::scansAndRefers);
        Check.sentence("scan: references to that space stay", EdgeStepTest::scansReferenceToThatSpace);
        Check.sentence("scan: ahead of root and flip", EdgeStepTest::scansSecond);
    }

    private static void rootSentences() {
        Check.sentence("root: the least", EdgeStepTest::leastRoot);
        Check.sentence("root: the least, even if it came later", EdgeStepTest::leastRootThatCameLater);
        Check.sentence("root: no unit of its own", EdgeStepTest::rootHasNoUnit);
        Check.sentence("root: none that has a number", EdgeStepTest::passesNumbers);
        Check.sentence("root: none whose object has a replica", EdgeStepTest::passesReplicated);
        Check.sentence("root: ahead of the flip", EdgeStepTest::rootsThird);
    }

    private static void flipSentences() {
        Check.sentence("flip: 16 units, of an empty heap too", EdgeStepTest::unitsOfTheFlip);
        Check.sentence("flip: each root refers to the replica", EdgeStepTest::everyRootGoesOver);
        Check.sentence("flip: roots go over at once, not ahead of it", EdgeStepTest::rootsGoOverAtOnce);
        Check.sentence("flip: a root that has a number keeps it", EdgeStepTest::numbersStay);
        Check.sentence("flip: the spaces change their parts, and back", EdgeStepTest::spacesChange);
        Check.sentence("flip: the collection is over", EdgeStepTest::collectionIsOver);
        Check.sentence("flip: scan, log and what is taken are 0", EdgeStepTest::scanAndLogAreEmpty);
        Check.sentence("flip: what was current is empty", EdgeStepTest::whatWasCurrentIsEmpty);
    }

    private static void unitsOfReplicating() {
        ReplicaHeap heap = new ReplicaHeap(64, 1);
        heap.alloc(0, 1);
        heap.alloc(1, 8);
        Check.due("the least", heap.collect(1), 2);
        Check.due("count(3)", heap.count(3), 2);
        heap.collect(2);
        Check.due("the most", heap.collect(1), 9);
        Check.due("count(3)", heap.count(3), 11);
    }

    private static void copiesBehindWhatIsUsed() {
        ReplicaHeap heap = new ReplicaHeap(64, 1);
        heap.alloc(5, 8);
        heap.alloc(1, 2);
        heap.alloc(0, 3);
        heap.collect(1);
        Check.due("the first is at 0", heap.look(0, 3), 0);
        heap.collect(4 + 1);
        Check.due("the second", heap.look(1, 3), 4);
        heap.collect(3 + 1);
        Check.due("the third", heap.look(5, 3), 7);
        Check.due("count(3)", heap.count(3), 16);
    }

    private static void copiesReferencesAsTheyAre() {
        ReplicaHeap heap = new ReplicaHeap(64, 1);
        heap.alloc(2, 3);
        heap.alloc(1, 1);
        heap.alloc(0, 2);
        heap.put(0, 0, 1);
        heap.putNumber(0, 1, 4);
        heap.collect(1);
        Check.due("kind of the reference", heap.cell(1, 1, 0), 1);
        Check.due("its place", heap.cell(1, 1, 1), 4);
        Check.due("kind of the number", heap.cell(1, 2, 0), 0);
        Check.due("the number", heap.cell(1, 2, 1), 4);
    }

    private static void copyHasNoReplica() {
        ReplicaHeap heap = new ReplicaHeap(64, 1);
        heap.alloc(0, 1);
        heap.collect(1);
        Check.due("the object's replica", heap.cell(0, 0, 2), 0);
        Check.due("the copy's", heap.cell(1, 0, 2), -1);
        heap.collect(-1);
        Check.due("behind the flip", heap.look(0, 3), -1);
        // This copy lies over the header that had a replica.
        heap.collect(1);
        Check.due("the next object's replica", heap.cell(1, 0, 2), 0);
        Check.due("the next copy's", heap.cell(0, 0, 2), -1);
    }

    private static void replicatesOnce() {
        ReplicaHeap heap = new ReplicaHeap(64, 1);
        heap.alloc(0, 2);
        heap.move(1, 0);
        heap.move(15, 0);
        heap.alloc(2, 1);
        heap.put(2, 0, 0);
        heap.put(0, 0, 0);
        Check.due("collect(-1)", heap.collect(-1), 5 + 5 + 16);
        Check.due("count(2)", heap.count(2), 5);
    }

    private static void fillsTheOtherSpace() {
        ReplicaHeap least = Heaps.full(1);
        Check.due("16 cells", least.collect(-1), 16 + 16 + 16);
        Check.due("count(2)", least.count(2), 16);
        Check.due("look(1, 1)", least.look(1, 1), 8);
        ReplicaHeap most = Heaps.chain(64, 44);
        most.alloc(1, 3);
        Check.due("400 cells", most.collect(-1), 400 + 400 + 16);
        Check.due("count(2)", most.count(2), 400);
    }

    private static void takesWithoutReplica() {
        ReplicaHeap heap = new ReplicaHeap(64, 1);
        heap.alloc(0, 2);
        heap.alloc(1, 2);
        heap.collect(0);
        heap.put(0, 1, 1);
        Check.counts("taken", heap, 0, 1, 6, 0, 0, 1, 1, 0, 0, 1, 1, 2, 64);
        Check.due("look(1, 3)", heap.look(1, 3), -1);
        heap.collect(1);
        Check.due("the copy has it all the same", heap.cell(1, 2, 1), 3);
    }

    private static void takesNumbers() {
        ReplicaHeap heap = new ReplicaHeap(64, 1);
        heap.alloc(5, 1);
        heap.alloc(0, 8);
        heap.put(0, 7, 0);
        heap.collect(1);
        heap.putNumber(0, 0, 4);
        heap.putNumber(0, 7, -5);
        Check.due("kind of the first field", heap.cell(1, 1, 0), 0);
        Check.due("the first field", heap.cell(1, 1, 1), 4);
        Check.due("kind of the last field", heap.cell(1, 8, 0), 0);
        Check.due("the last field", heap.cell(1, 8, 1), -5);
        Check.counts("1 unit each", heap, 0, 1, 11, 9, 0, 2, 2, 0, 0, 11, 9, 2, 64);
    }

    private static void takesAndReplicates() {
        ReplicaHeap heap = new ReplicaHeap(64, 1);
        heap.alloc(0, 1);
        heap.alloc(15, 3);
        heap.alloc(1, 8);
        heap.collect(1);
        heap.put(0, 0, 1);
        Check.counts("1 to take, 9 to copy", heap, 0, 1, 15, 11, 0, 1, 1, 0, 0, 12, 10, 3, 64);
        Check.due("look(1, 3)", heap.look(1, 3), 2);
        Check.due("kind of the replica's field", heap.cell(1, 1, 0), 2);
        Check.due("the replica's field", heap.cell(1, 1, 1), 2);
        Check.due("kind of the object's field", heap.cell(0, 1, 0), 1);
        Check.due("the object's field", heap.cell(0, 1, 1), 6);
    }

    private static void takesAndRefers() {
        ReplicaHeap heap = new ReplicaHeap(64, 1);
        heap.alloc(15, 3);
        heap.alloc(0, 1);
        heap.alloc(1, 3);
        heap.put(0, 0, 1);
        heap.collect(4);
        Check.due("both copied", heap.count(3), 6);
        heap.putNumber(0, 0, 9);
        Check.due("a number behind scan", heap.cell(1, 1, 1), 9);
        heap.put(0, 0, 1);
        Check.due("kind of the replica's field", heap.cell(1, 1, 0), 2);
        Check.due("the replica's field", heap.cell(1, 1, 1), 2);
        Check.counts("1 unit each", heap, 0, 1, 10, 6, 2, 2, 2, 0, 0, 10, 8, 3, 64);
    }

    private static void takesReferenceToItself() {
        ReplicaHeap heap = new ReplicaHeap(64, 1);
        heap.alloc(3, 1);
        heap.alloc(0, 2);
        heap.collect(1);
        heap.put(0, 1, 0);
        Check.due("kind of the replica's field", heap.cell(1, 2, 0), 2);
        Check.due("the replica's field", heap.cell(1, 2, 1), 0);
        Check.due("count(3)", heap.count(3), 3);
        Check.due("count(9)", heap.count(9), 3 + 1);
    }

    private static void takesFirst() {
        ReplicaHeap scans = new ReplicaHeap(64, 1);
        scans.alloc(0, 2);
        scans.collect(1);
        scans.putNumber(0, 0, 1);
        Check.counts("ahead of scan", scans, 0, 1, 3, 3, 0, 1, 1, 0, 0, 4, 3, 1, 64);
        ReplicaHeap roots = new ReplicaHeap(64, 1);
        roots.alloc(0, 1);
        roots.alloc(1, 1);
        roots.collect(4);
        roots.putNumber(0, 0, 1);
        Check.counts("ahead of root", roots, 0, 1, 4, 2, 2, 1, 1, 0, 0, 5, 4, 2, 64);
        ReplicaHeap flips = new ReplicaHeap(64, 1);
        flips.alloc(0, 1);
        flips.collect(4);
        flips.putNumber(0, 0, 1);
        Check.counts("ahead of flip", flips, 0, 1, 2, 2, 2, 1, 1, 0, 0, 5, 4, 1, 64);
    }

    private static void scansHeader() {
        ReplicaHeap heap = new ReplicaHeap(64, 1);
        heap.alloc(0, 8);
        heap.collect(1);
        Check.due("collect(1)", heap.collect(1), 1);
        Check.due("scan", heap.count(4), 1);
        Check.due("kind", heap.cell(1, 0, 0), 3);
        Check.due("fields", heap.cell(1, 0, 1), 8);
        Check.due("replica", heap.cell(1, 0, 2), -1);
    }

    private static void scansNumbers() {
        ReplicaHeap heap = new ReplicaHeap(64, 1);
        heap.alloc(0, 3);
        heap.alloc(1, 1);
        heap.number(1, 0);
        // A dead object lies at 4.
        int[] numbers = {4, -1, 0};
        for (int field = 0; field < 3; field++) {
            heap.putNumber(0, field, numbers[field]);
        }
        heap.collect(4 + 1);
        for (int field = 0; field < 3; field++) {
            Check.due("collect(1)", heap.collect(1), 1);
            Check.due("scan", heap.count(4), field + 2);
            Check.due("kind", heap.cell(1, field + 1, 0), 0);
            Check.due("number", heap.cell(1, field + 1, 1), numbers[field]);
        }
        Check.due("count(3)", heap.count(3), 4);
    }

    private static void scansAndReplicates() {
        ReplicaHeap heap = new ReplicaHeap(64, 1);
        heap.alloc(0, 1);
        heap.alloc(15, 4);
        heap.alloc(1, 8);
        heap.put(0, 0, 1);
        heap.collect(2 + 1);
        Check.due("collect(1)", heap.collect(1), 1 + 9);
        Check.due("scan", heap.count(4), 2);
        Check.due("count(3)", heap.count(3), 2 + 9);
        Check.due("kind", heap.cell(1, 1, 0), 2);
        Check.due("place", heap.cell(1, 1, 1), 2);
        Check.due("look(1, 3)", heap.look(1, 3), 2);
        Check.due("the object's field", heap.cell(0, 1, 0), 1);
    }

    private static void scansAndRefers() {
        ReplicaHeap heap = new ReplicaHeap(64, 1);
        heap.alloc(15, 4);
        heap.alloc(0, 2);
        heap.alloc(1, 1);
        heap.put(0, 0, 1);
        heap.put(0, 1, 1);
        heap.collect(3 + 1 + 3);
        Check.due("scan", heap.count(4), 2);
        Check.due("collect(1)", heap.collect(1), 1);
        Check.due("count(3)", heap.count(3), 5);
        Check.due("kind", heap.cell(1, 2, 0), 2);
        Check.due("place", heap.cell(1, 2, 1), 3);
    }

    private static void scansReferenceToThatSpace() {
        ReplicaHeap heap = new ReplicaHeap(64, 1);
        heap.alloc(2, 3);
        heap.alloc(0, 1);
        heap.alloc(1, 1);
        heap.number(2, 0);
        heap.collect(1);
        heap.put(0, 0, 1);
        // The cell at 2 of the current space is a field of what is dead.
        Check.due("kind ahead of the scan", heap.cell(1, 1, 0), 2);
        Check.due("place ahead of the scan", heap.cell(1, 1, 1), 2);
        Check.due("collect(2)", heap.collect(2), 2);
        Check.due("scan", heap.count(4), 2);
        Check.due("kind", heap.cell(1, 1, 0), 2);
        Check.due("place", heap.cell(1, 1, 1), 2);
        Check.due("count(3)", heap.count(3), 4);
    }

    private static void scansSecond() {
        ReplicaHeap heap = new ReplicaHeap(64, 1);
        heap.alloc(0, 1);
        heap.alloc(1, 1);
        heap.collect(1);
        Check.due("ahead of root", heap.collect(1), 1);
        Check.due("scan", heap.count(4), 1);
        Check.due("look(1, 3)", heap.look(1, 3), -1);
        Check.due("up to the last copied cell", heap.collect(1), 1);
        Check.due("scan", heap.count(4), 2);
        heap.number(1, 0);
        Check.due("then the flip", heap.collect(1), 16);
        ReplicaHeap one = new ReplicaHeap(64, 1);
        one.alloc(0, 1);
        one.collect(3);
        Check.due("ahead of flip", one.collect(1), 1);
        Check.due("running", one.count(1), 1);
    }

    private static void leastRoot() {
        ReplicaHeap heap = new ReplicaHeap(64, 1);
        heap.alloc(15, 1);
        heap.alloc(14, 1);
        heap.alloc(0, 1);
        heap.collect(1);
        Check.due("0 is the first", heap.look(0, 3), 0);
        Check.due("14 is not", heap.look(14, 3), -1);
        Check.due("15 is not", heap.look(15, 3), -1);
        heap.collect(3);
        Check.due("14 is the second", heap.look(14, 3), 2);
        Check.due("15 is still not", heap.look(15, 3), -1);
        heap.collect(3);
        Check.due("15 is the last", heap.look(15, 3), 4);
    }

    private static void leastRootThatCameLater() {
        ReplicaHeap heap = new ReplicaHeap(64, 1);
        heap.alloc(1, 1);
        heap.alloc(2, 1);
        heap.alloc(3, 2);
        heap.collect(4);
        heap.move(0, 3);
        Check.due("collect(1)", heap.collect(1), 3);
        Check.due("look(0, 3)", heap.look(0, 3), 2);
        Check.due("look(2, 3)", heap.look(2, 3), -1);
    }

    private static void rootHasNoUnit() {
        ReplicaHeap heap = new ReplicaHeap(64, 1);
        heap.alloc(15, 1);
        Check.due("collect(1)", heap.collect(1), 2);
        Check.due("scan", heap.count(4), 0);
        Check.due("count(9)", heap.count(9), 2);
    }

    private static void passesNumbers() {
        ReplicaHeap heap = new ReplicaHeap(64, 1);
        heap.alloc(3, 1);
        heap.number(3, 0);
        heap.number(0, Integer.MAX_VALUE);
        heap.number(15, -1);
        Check.due("collect(1)", heap.collect(1), 16);
        Check.due("count(2)", heap.count(2), 0);
    }

    private static void passesReplicated() {
        ReplicaHeap heap = new ReplicaHeap(64, 1);
        heap.alloc(0, 1);
        heap.move(15, 0);
        heap.collect(4);
        Check.due("collect(1)", heap.collect(1), 16);
        Check.due("count(2)", heap.count(2), 2);
    }

    private static void rootsThird() {
        ReplicaHeap heap = new ReplicaHeap(64, 1);
        heap.alloc(0, 1);
        heap.collect(4);
        heap.alloc(15, 8);
        Check.due("the last root, all else done", heap.look(15, 3), 2);
        Check.due("running", heap.count(1), 1);
        Check.due("count(9)", heap.count(9), 4 + 9);
    }

    private static void unitsOfTheFlip() {
        ReplicaHeap heap = new ReplicaHeap(16, 1);
        Check.due("collect(1)", heap.collect(1), 16);
        Check.counts("flipped", heap, 1, 0, 0, 0, 0, 0, 0, 1, 0, 16, 16, 0, 16);
        heap.alloc(0, 1);
        heap.collect(4);
        Check.due("collect(1) again", heap.collect(1), 16);
        Check.due("count(9)", heap.count(9), 16 + 4 + 16);
    }

    private static void everyRootGoesOver() {
        ReplicaHeap heap = new ReplicaHeap(64, 1);
        for (int root = 15; root >= 0; root--) {
            heap.alloc(root, 1);
            heap.putNumber(root, 0, root);
        }
        heap.collect(-1);
        for (int root = 0; root < 16; root++) {
            Check.due("look(" + root + ", 0)", heap.look(root, 0), 1);
            Check.due("look(" + root + ", 1)", heap.look(root, 1), 2 * root);
            Check.due("field(" + root + ", 0, 1)", heap.field(root, 0, 1), root);
        }
    }

    private static void rootsGoOverAtOnce() {
        ReplicaHeap heap = new ReplicaHeap(64, 1);
        heap.alloc(1, 2);
        heap.alloc(0, 3);
        heap.collect(7 + 7);
        Check.due("all scanned", heap.count(4), 7);
        Check.due("look(0, 1)", heap.look(0, 1), 3);
        Check.due("look(1, 1)", heap.look(1, 1), 0);
        heap.collect(1);
        Check.due("look(0, 1) behind", heap.look(0, 1), 0);
        Check.due("look(1, 1) behind", heap.look(1, 1), 4);
    }

    private static void numbersStay() {
        ReplicaHeap heap = new ReplicaHeap(64, 1);
        heap.alloc(1, 2);
        heap.alloc(5, 2);
        heap.number(5, 0);
        heap.number(0, 3);
        heap.number(15, Integer.MIN_VALUE);
        heap.collect(-1);
        Check.due("look(0, 0)", heap.look(0, 0), 0);
        Check.due("look(0, 1)", heap.look(0, 1), 3);
        Check.due("look(5, 1)", heap.look(5, 1), 0);
        Check.due("look(15, 1)", heap.look(15, 1), Integer.MIN_VALUE);
    }

    private static void spacesChange() {
        ReplicaHeap heap = new ReplicaHeap(64, 1);
        heap.alloc(0, 2);
        heap.put(0, 1, 0);
        for (int flips = 1; flips <= 4; flips++) {
            heap.collect(-1);
            int space = flips % 2;
            Check.due("current", heap.count(0), space);
            Check.due("kind of its reference", heap.cell(space, 2, 0), 1 + space);
            Check.due("used", heap.count(2), 3);
            Check.refused("cell of the other", heap, Check.IOOBE, () -> heap.cell(1 - space, 0, 0));
        }
    }

    private static void collectionIsOver() {
        ReplicaHeap heap = new ReplicaHeap(64, 1);
        heap.alloc(0, 2);
        heap.collect(-1);
        Check.due("running", heap.count(1), 0);
        heap.putNumber(0, 0, 1);
        Check.due("a change is not logged", heap.count(5), 0);
        heap.alloc(1, 1);
        Check.due("an allocation does not work", heap.count(9), 3 + 3 + 16);
    }

    private static void scanAndLogAreEmpty() {
        ReplicaHeap heap = new ReplicaHeap(64, 1);
        heap.alloc(0, 2);
        heap.collect(3 + 3);
        heap.putNumber(0, 0, 1);
        Check.counts("ahead", heap, 0, 1, 3, 3, 3, 1, 1, 0, 0, 7, 6, 1, 64);
        heap.collect(1);
        Check.counts("behind", heap, 1, 0, 3, 0, 0, 0, 0, 1, 0, 23, 16, 1, 64);
        Check.refused("entry(0, 0)", heap, Check.IOOBE, () -> heap.entry(0, 0));
    }

    private static void whatWasCurrentIsEmpty() {
        ReplicaHeap heap = new ReplicaHeap(64, 1);
        heap.alloc(0, 2);
        heap.alloc(1, 2);
        heap.collect(-1);
        Check.due("count(3)", heap.count(3), 0);
        for (int what = 0; what < 3; what++) {
            int asked = what;
            Check.refused("cell(0, 0, " + what + ")", heap, Check.IOOBE, () -> heap.cell(0, 0, asked));
        }
        heap.collect(1);
        Check.due("copied to its cell 0", heap.look(0, 3), 0);
        Check.due("count(3) then", heap.count(3), 3);
    }
}
