/** The edges that the promises themselves name: each range's ends, each refused call. */
public final class EdgesOfPromises {
    private static final int LOW = Run.LOW;
    private static final int HIGH = Run.HIGH;

    private EdgesOfPromises() {
    }

    public static void main(String[] args) throws Exception {
        Cases.run(EdgesOfPromises.class);
    }

    /** Key 5 has three bytes, on the disk and in the output; key 6 was deleted; twenty on the tape. */
    private static void used(Run r) {
        r.store(5, 3);
        r.put(6, 0);
        r.flush();
        r.settle(200);
        r.delete(6);
        r.get(5);
        r.feed(1, 2, 3, 4, 5);
    }

    private static void usedAndOff(Run r) {
        used(r);
        r.crash();
    }

    // ---- 1: a new object ----

    static void promise01_theStoreIsAsBehindRecover() {
        Run r = new Run();
        r.dueAbout(0, 0, 0, 8, -1, 0, 0, 0, 0, 0, 0, 0);
        r.due(-1, r.recover());
        r.due(-1, r.list(0));
        r.due(0, r.flush());
        r.due(-1, r.poll(1));
        r.due(-1, r.waiting(0, 0));
    }

    static void promise01_theTapeIsEmpty() {
        Run r = new Run();
        r.due(-1, r.put(0, 1));
        r.due(20, r.feed(0, 0, 0, 0, 0));
    }

    static void promise01_theOutputIsEmpty() {
        Run r = new Run();
        r.due(-1, r.octet(0));
    }

    static void promise01_twoObjectsShareNothing() {
        Run r = new Run();
        Run other = new Run();
        used(r);
        r.put(7, 0);
        other.dueAbout(0, 0, 0, 8, -1, 0, 0, 0, 0, 0, 0, 0);
        other.due(-1, other.get(5));
        other.due(-1, other.put(0, 1));
        other.due(0, other.disk(0, 0, 0));
        other.due(-1, other.record(1, 0));
    }

    // ---- 2: feed ----

    private static void fullTape(Run r) {
        for (int n = 1; n <= 10; n++) {
            r.due(20 * n, r.feed(n, 0, 0, 0, n));
        }
    }

    static void promise02_upTo200BytesAreOnTheTape() {
        Run r = new Run();
        fullTape(r);
        r.due(1, r.put(1, 100));
        r.due(100, r.get(1));
        r.due(1, r.octet(3));
        r.due(5, r.octet(99));
    }

    static void promise02_moreThan200IsNone() {
        Twins.dueUnchanged(EdgesOfPromises::fullTape, -1, r -> r.feed(9, 9, 9, 9, 9));
    }

    static void promise02_moreThan200LeavesTheTapeFull() {
        Run r = new Run();
        fullTape(r);
        r.due(-1, r.feed(9, 9, 9, 9, 9));
        r.due(-1, r.feed(9, 9, 9, 9, 9));
        r.put(1, 100);
        r.get(1);
        r.dueOctets(0, 0, 0, 1);
        r.due(20, r.feed(0, 0, 0, 0, 0));
    }

    static void promise02_fourBytesOfEachTheHighestFirst() {
        Run r = new Run();
        r.feed(0x01020304, -1, LOW, HIGH, 0x00FF7F80);
        r.put(1, 20);
        r.get(1);
        r.dueOctets(1, 2, 3, 4, 255, 255, 255, 255, 128, 0, 0, 0, 127, 255, 255, 255, 0, 255, 127, 128);
    }

    static void promise02_behindThoseOnTheTape() {
        Run r = new Run();
        r.feed(0, 0, 0, 0, 1);
        r.feed(2, 0, 0, 0, 3);
        r.put(1, 40);
        r.get(1);
        r.due(1, r.octet(19));
        r.due(2, r.octet(23));
        r.due(3, r.octet(39));
    }

    static void promise02_theTapeOutlivesACrash() {
        Run r = new Run();
        r.feed(1, 2, 3, 4, 5);
        r.crash();
        r.due(40, r.feed(1, 2, 3, 4, 5));
        r.recover();
        r.due(60, r.feed(1, 2, 3, 4, 5));
    }

    // ---- 3: put ----

    static void promise03_firstAndLastKey() {
        Run r = new Run();
        r.due(1, r.put(0, 0));
        r.due(2, r.put(47, 0));
        r.due(0, r.list(0));
        r.due(47, r.list(1));
    }

    static void promise03_noSuchKey() {
        for (int key : new int[] {-1, 48, LOW, HIGH}) {
            Twins.dueUnchanged(EdgesOfPromises::used, -1, r -> r.put(key, 20));
        }
    }

    static void promise03_0BytesOfAnEmptyTape() {
        Run r = new Run();
        r.due(1, r.put(1, 0));
        r.due(0, r.get(1));
    }

    static void promise03_0BytesEmptyTheTape() {
        Run r = new Run();
        r.feed(1, 2, 3, 4, 5);
        r.due(1, r.put(1, 0));
        r.due(-1, r.put(1, 1));
        r.due(20, r.feed(1, 2, 3, 4, 5));
    }

    static void promise03_100Bytes() {
        Run r = new Run();
        r.feedBytes(100, 1);
        r.due(1, r.put(1, 100));
        r.due(100, r.get(1));
        r.due(100, r.octet(99));
        r.due(-1, r.octet(100));
    }

    static void promise03_101Bytes() {
        Twins.dueUnchanged(r -> r.feedBytes(120, 1), -1, r -> r.put(1, 101));
    }

    static void promise03_noSuchNumberOfBytes() {
        for (int n : new int[] {-1, 200, 201, LOW, HIGH}) {
            Twins.dueUnchanged(EdgesOfPromises::fullTape, -1, r -> r.put(1, n));
        }
    }

    static void promise03_allBytesOfTheTape() {
        Run r = new Run();
        r.feedBytes(20, 1);
        r.due(1, r.put(1, 20));
        r.due(20, r.get(1));
        r.due(20, r.octet(19));
    }

    static void promise03_moreBytesThanAreOnTheTape() {
        Twins.dueUnchanged(EdgesOfPromises::used, -1, r -> r.put(1, 21));
        Twins.dueUnchanged(r -> r.about(0), -1, r -> r.put(1, 1));
    }

    static void promise03_theFirstBytesOfTheTapeAndTheRestIsGone() {
        Run r = new Run();
        r.feedBytes(40, 1);
        r.due(1, r.put(1, 5));
        r.due(5, r.get(1));
        r.dueOctets(1, 2, 3, 4, 5, -1);
        r.due(-1, r.put(2, 1));
    }

    static void promise03_noneKeepsTheTape() {
        Run r = new Run();
        r.feedBytes(20, 1);
        r.due(-1, r.put(48, 3));
        r.due(-1, r.put(1, 21));
        r.due(-1, r.put(1, -1));
        r.due(1, r.put(1, 20));
    }

    static void promise03_noRoom() {
        Twins.dueUnchanged(States::withoutRoomForPut, -2, r -> r.put(1, 0));
    }

    static void promise03_noRoomEmptiesTheTape() {
        Run r = new Run();
        States.withoutRoomForPut(r);
        r.feedBytes(40, 1);
        r.due(-2, r.put(1, 5));
        r.due(-1, r.put(1, 1));
        r.due(20, r.feed(0, 0, 0, 0, 0));
    }

    static void promise03_tooManyWrites() {
        Twins.dueUnchanged(r -> States.crowded(r, 120), -3, r -> r.put(1, 0));
    }

    static void promise03_tooManyWritesEmptyTheTape() {
        Run r = new Run();
        States.crowded(r, 120);
        r.feedBytes(40, 1);
        r.due(-3, r.put(1, 5));
        r.due(-1, r.put(1, 1));
        r.due(20, r.feed(0, 0, 0, 0, 0));
    }

    static void promise03_noneIsToldAheadOfNoRoomAndTooMany() {
        Run r = new Run();
        States.crowdedWithoutAnyRoom(r);
        r.feedBytes(20, 1);
        r.due(-1, r.put(48, 0));
        r.due(-1, r.put(1, 21));
        r.due(-2, r.put(1, 20));
    }

    static void promise03_off() {
        Twins.dueUnchanged(EdgesOfPromises::usedAndOff, -1, r -> r.put(1, 20));
        Twins.dueUnchanged(EdgesOfPromises::usedAndOff, -1, r -> r.put(1, 0));
    }

    static void promise03_ofAKeyThatHasAPlaceAndOfOneThatIsGone() {
        Run r = new Run();
        used(r);
        r.due(4, r.put(5, 1));
        r.due(1, r.get(5));
        r.due(5, r.store(6, 2));
        r.due(2, r.get(6));
        r.due(2, r.about(9));
    }

    // ---- 4: delete ----

    static void promise04_firstAndLastKey() {
        Run r = new Run();
        r.put(0, 0);
        r.put(47, 0);
        r.due(3, r.delete(0));
        r.due(4, r.delete(47));
        r.due(-1, r.list(0));
    }

    static void promise04_theKeyHasNoPlace() {
        for (int key : new int[] {0, 4, 6, 47}) {
            Twins.dueUnchanged(EdgesOfPromises::used, -1, r -> r.delete(key));
        }
    }

    static void promise04_noSuchKey() {
        for (int key : new int[] {-1, 48, LOW, HIGH}) {
            Twins.dueUnchanged(EdgesOfPromises::used, -1, r -> r.delete(key));
        }
    }

    static void promise04_twice() {
        Run r = new Run();
        used(r);
        r.due(4, r.delete(5));
        r.due(-1, r.delete(5));
        r.due(4, r.about(0));
    }

    static void promise04_off() {
        Twins.dueUnchanged(EdgesOfPromises::usedAndOff, -1, r -> r.delete(5));
    }

    // ---- 5: get ----

    static void promise05_firstAndLastKey() {
        Run r = new Run();
        r.store(0, 1);
        r.store(47, 2);
        r.due(1, r.get(0));
        r.due(2, r.get(47));
    }

    static void promise05_theKeyHasNoPlaceAndTheOutputStays() {
        for (int key : new int[] {0, 4, 6, 47}) {
            Twins.dueUnchanged(EdgesOfPromises::used, -1, r -> r.get(key));
        }
        Run r = new Run();
        used(r);
        r.due(-1, r.get(6));
        r.dueOctets(1, 2, 3, -1);
    }

    static void promise05_noSuchKey() {
        for (int key : new int[] {-1, 48, LOW, HIGH}) {
            Twins.dueUnchanged(EdgesOfPromises::used, -1, r -> r.get(key));
        }
    }

    static void promise05_offAndTheOutputStays() {
        Twins.dueUnchanged(EdgesOfPromises::usedAndOff, -1, r -> r.get(5));
        Run r = new Run();
        usedAndOff(r);
        r.due(-1, r.get(5));
        r.dueOctets(1, 2, 3, -1);
    }

    static void promise05_ofNoBytesEmptiesTheOutput() {
        Run r = new Run();
        used(r);
        r.put(8, 0);
        r.due(0, r.get(8));
        r.due(-1, r.octet(0));
    }

    static void promise05_ofFewerBytesShortensTheOutput() {
        Run r = new Run();
        r.storeSeven(1);
        r.store(2, 4);
        r.due(100, r.get(1));
        r.due(4, r.get(2));
        r.dueOctets(1, 2, 3, 4, -1);
        r.due(-1, r.octet(99));
    }

    static void promise05_whereverTheObjectEndsInItsBlock() {
        for (int n = 0; n <= 100; n++) {
            Run r = new Run();
            r.put(1, 0);
            r.store(2, n);
            r.due(n, r.get(2));
            r.due(n == 0 ? -1 : n, r.octet(n - 1));
            r.settle(200);
            r.due(n, r.get(2));
            r.due(n == 0 ? -1 : n, r.octet(n - 1));
            r.due(-1, r.octet(n));
            r.due((n + 8 + 15) / 16, r.about(5));
        }
    }

    // ---- 6: octet ----

    static void promise06_firstAndLastByteAndJustOutside() {
        Run r = new Run();
        used(r);
        r.due(1, r.octet(0));
        r.due(3, r.octet(2));
        for (int i : new int[] {-1, 3, 4, 99, 100, 255, LOW, HIGH}) {
            r.due(-1, r.octet(i));
        }
    }

    static void promise06_noOutputYet() {
        Run r = new Run();
        r.store(1, 3);
        r.due(-1, r.octet(0));
    }

    static void promise06_bytesAre0To255() {
        Run r = new Run();
        r.feed(0x00FF807F, 0, 0, 0, 0);
        r.put(1, 4);
        r.get(1);
        r.dueOctets(0, 255, 128, 127, -1);
        r.settle(200);
        r.get(1);
        r.dueOctets(0, 255, 128, 127, -1);
    }

    static void promise06_theOutputStaysTillTheNextGet() {
        Run r = new Run();
        used(r);
        r.store(5, 1);
        r.due(3, r.octet(2));
        r.delete(5);
        r.due(3, r.octet(2));
        r.crash();
        r.due(3, r.octet(2));
        r.recover();
        r.due(3, r.octet(2));
        r.due(-1, r.octet(3));
    }

    // ---- 7: list ----

    static void promise07_noKeys() {
        Run r = new Run();
        for (int k : new int[] {-1, 0, 1, LOW, HIGH}) {
            r.due(-1, r.list(k));
        }
    }

    static void promise07_firstAndLastAndJustOutside() {
        Run r = new Run();
        r.put(47, 0);
        r.put(3, 0);
        r.put(0, 0);
        r.due(0, r.list(0));
        r.due(3, r.list(1));
        r.due(47, r.list(2));
        for (int k : new int[] {-1, 3, 47, 48, LOW, HIGH}) {
            r.due(-1, r.list(k));
        }
    }

    static void promise07_allKeys() {
        Run r = new Run();
        for (int key = 0; key < 48; key++) {
            r.put(key, 0);
        }
        for (int k = 0; k < 48; k++) {
            r.due(k, r.list(k));
        }
        r.due(-1, r.list(48));
    }

    static void promise07_keysThatAreGone() {
        Run r = new Run();
        r.put(1, 0);
        r.put(2, 0);
        r.put(3, 0);
        r.flush();
        r.delete(1);
        r.flush();
        r.delete(3);
        r.due(2, r.list(0));
        r.due(-1, r.list(1));
    }

    static void promise07_off() {
        Run r = new Run();
        usedAndOff(r);
        r.due(-1, r.list(0));
        r.due(-1, r.list(-1));
    }

    // ---- 8: flush ----

    static void promise08_thereWereChanges() {
        Run r = new Run();
        r.put(1, 0);
        r.due(1, r.flush());
        r.due(0, r.flush());
        r.delete(1);
        r.due(1, r.flush());
        r.due(0, r.flush());
    }

    static void promise08_thereWereNoChanges() {
        Twins.dueUnchanged(r -> r.feed(1, 2, 3, 4, 5), 0, r -> r.flush());
    }

    static void promise08_noRoom() {
        Twins.dueUnchanged(r -> States.withNoneEmpty(r, 0), -2, r -> r.flush());
    }

    static void promise08_noRoomForAMergedTableOfManyKeys() {
        Run r = new Run();
        for (int key = 0; key < 48; key++) {
            r.put(key, 0);
        }
        r.flush();
        r.putOnes(0, 6);
        r.putOnes(0, 32);
        r.settle(200);
        r.due(2, r.about(3));
        r.flush();
        r.putOnes(0, 15);
        r.flush();
        r.due(3, r.about(8));
        r.putOnes(0, 6);
        r.settle(200);
        r.due(0, r.about(3));
        r.due(7, r.extent(7, 0));
        r.due(-2, r.flush());
        r.due(3, r.about(8));
        r.due(1, r.about(9));
    }

    static void promise08_tooManyWrites() {
        Twins.dueUnchanged(r -> States.crowded(r, 119), -3, r -> r.flush());
    }

    static void promise08_off() {
        Twins.dueUnchanged(EdgesOfPromises::usedAndOff, -1, r -> r.flush());
    }

    // ---- 9: reclaim ----

    static void promise09_noSuchExtent() {
        for (int extent : new int[] {-1, 8, LOW, HIGH}) {
            Twins.dueUnchanged(EdgesOfPromises::used, -1, r -> r.reclaim(extent));
        }
    }

    static void promise09_open() {
        Twins.dueUnchanged(EdgesOfPromises::used, -1, r -> r.reclaim(0));
    }

    static void promise09_empty() {
        for (int extent = 1; extent < 8; extent++) {
            Run r = new Run();
            used(r);
            r.due(-1, r.reclaim(extent));
            r.due(1, r.about(6));
        }
        Run r = new Run();
        r.due(-1, r.reclaim(0));
    }

    static void promise09_off() {
        Twins.dueUnchanged(r -> {
            r.putOnes(5, 17);
            r.flush();
            r.settle(200);
            r.crash();
        }, -1, r -> r.reclaim(0));
    }

    static void promise09_firstExtent() {
        Run r = new Run();
        r.storeSeven(1);
        r.storeSeven(2);
        r.storeSeven(3);
        r.due(2, r.reclaim(0));
        r.due(0, r.extent(0, 0));
    }

    static void promise09_lastExtent() {
        Run r = new Run();
        States.withNoneEmpty(r, 1);
        r.due(1, r.flush());
        r.due(-1, r.reclaim(7));
        r.due(0, r.reclaim(1));
        r.due(0, r.reclaim(2));
        r.due(0, r.reclaim(3));
        r.put(9, 0);
        r.due(1, r.about(4));
        r.due(1, r.reclaim(7));
        r.due(0, r.extent(7, 0));
        r.settle(200);
        r.crash();
        r.due(2, r.recover());
        r.due(0, r.record(r.about(6) % 2, 11));
    }

    static void promise09_noneMoved() {
        Run r = new Run();
        r.putOnes(1, 17);
        r.due(0, r.reclaim(0));
        r.due(-1, r.reclaim(0));
    }

    static void promise09_noRoom() {
        Twins.dueUnchangedButReads(States::withOneEmptyAndSixteenInExtent0, -2, r -> r.reclaim(0));
        Twins.dueUnchanged(r -> States.withNoneEmpty(r, 0), -2, r -> r.reclaim(1));
    }

    static void promise09_tooManyWrites() {
        Twins.dueUnchanged(r -> States.crowded(r, 119), -3, r -> r.reclaim(0));
    }

    static void promise09_againBehindARefusal() {
        Run r = new Run();
        States.crowded(r, 119);
        r.due(-3, r.reclaim(0));
        r.settle(200);
        r.due(0, r.reclaim(0));
        r.due(0, r.extent(0, 0));
    }

    // ---- 10: poll ----

    static void promise10_firstAndLastHandleAndJustOutside() {
        Run r = new Run();
        r.put(1, 0);
        r.put(2, 0);
        r.due(0, r.poll(1));
        r.due(0, r.poll(2));
        for (int handle : new int[] {0, -1, 3, LOW, HIGH}) {
            r.due(-1, r.poll(handle));
        }
    }

    static void promise10_noMutationsYet() {
        Run r = new Run();
        for (int handle : new int[] {-1, 0, 1, LOW, HIGH}) {
            r.due(-1, r.poll(handle));
        }
    }

    static void promise10_persistentNotYetLost() {
        Run r = new Run();
        r.putAndFlush(1, 1);
        r.put(2, 0);
        r.settle(200);
        r.due(1, r.poll(1));
        r.due(0, r.poll(2));
        r.crash();
        r.due(1, r.poll(1));
        r.due(2, r.poll(2));
        r.due(-1, r.poll(3));
        r.recover();
        r.due(1, r.poll(1));
        r.due(2, r.poll(2));
        r.due(-1, r.poll(3));
        r.due(-1, r.poll(0));
    }

    static void promise10_ofADelete() {
        Run r = new Run();
        r.putAndFlush(1, 1);
        r.delete(1);
        r.due(0, r.poll(2));
        r.flush();
        r.settle(200);
        r.due(1, r.poll(2));
    }

    static void promise10_manyHandles() {
        Run r = new Run();
        r.put(0, 0);
        for (int n = 1; n <= 100; n++) {
            r.delete(0);
            r.settle(200);
            r.due(-1, r.poll(2 * n + 1));
            r.due(0, r.poll(2 * n));
            if (r.put(0, 0) == Run.NO_ROOM) {
                break;
            }
        }
    }

    /** Puts and deletes key 0, twice so many mutations. */
    private static void putAndDelete(Run r, int times, int before) {
        for (int n = 0; n < times; n++) {
            r.due(before + 2 * n + 1, r.put(0, 0));
            r.due(before + 2 * n + 2, r.delete(0));
        }
    }

    private static void reclaimEach(Run r, int... extents) {
        r.settle(200);
        for (int extent : extents) {
            r.due(0, r.reclaim(extent));
        }
    }

    static void promise10_nearlyAsManyHandlesAsCalls() {
        Run r = new Run();
        putAndDelete(r, 96, 0);
        r.due(-2, r.put(0, 0));
        reclaimEach(r, 0, 1, 2, 3, 4, 5);
        r.settle(200);
        r.due(192, r.about(7));
        putAndDelete(r, 95, 192);
        r.due(-2, r.put(0, 0));
        reclaimEach(r, 0, 1, 2);
        putAndDelete(r, 46, 382);
        r.due(0, r.poll(474));
        r.due(-1, r.poll(475));
        r.settle(200);
        r.due(382, r.about(7));
        r.due(1, r.poll(382));
        r.due(0, r.poll(383));
        r.crash();
        r.due(1, r.poll(382));
        r.due(2, r.poll(383));
        r.due(2, r.poll(474));
        r.due(-1, r.poll(475));
        r.due(474, r.about(0));
    }

    // ---- 11: issue ----

    static void promise11_noneWaits() {
        Run r = new Run();
        for (int k : new int[] {-1, 0, 1, LOW, HIGH}) {
            r.due(-1, r.issue(k));
        }
    }

    private static void threeReady(Run r) {
        r.store(1, 30);
        r.flush();
        r.due(3, r.about(2));
        r.due(5, r.about(1));
    }

    static void promise11_justOutside() {
        for (int k : new int[] {-1, 3, 4, 5, LOW, HIGH}) {
            Twins.dueUnchanged(EdgesOfPromises::threeReady, -1, r -> r.issue(k));
        }
    }

    static void promise11_firstAndLast() {
        Run r = new Run();
        threeReady(r);
        r.due(2, r.issue(2));
        r.due(0, r.issue(0));
        r.due(1, r.issue(0));
        r.due(3, r.issue(0));
        r.due(4, r.issue(0));
        r.due(-1, r.issue(0));
    }

    static void promise11_readyOnesAreByNumber() {
        Run r = new Run();
        threeReady(r);
        r.put(2, 0);
        r.due(4, r.about(2));
        r.due(5, r.issue(3));
        r.due(-1, r.issue(3));
    }

    static void promise11_off() {
        Twins.dueUnchanged(EdgesOfPromises::usedAndOff, -1, r -> r.issue(0));
    }

    // ---- 12: settle ----

    static void promise12_0() {
        Twins.dueUnchanged(EdgesOfPromises::threeReady, 0, r -> r.settle(0));
    }

    static void promise12_200() {
        Run r = new Run();
        States.crowded(r, 120);
        r.due(120, r.settle(200));
        r.due(0, r.about(1));
        r.due(0, r.settle(200));
    }

    static void promise12_others() {
        for (int n : new int[] {-1, 201, LOW, HIGH}) {
            Twins.dueUnchanged(EdgesOfPromises::threeReady, -1, r -> r.settle(n));
        }
    }

    static void promise12_untilNWereIssued() {
        Run r = new Run();
        threeReady(r);
        r.due(1, r.settle(1));
        r.due(1, r.waiting(0, 0));
        r.due(3, r.settle(3));
        r.due(4, r.waiting(0, 0));
    }

    static void promise12_untilNoneWaits() {
        Run r = new Run();
        threeReady(r);
        r.due(5, r.settle(5));
        threeReady(r);
        r.due(5, r.settle(6));
        r.due(0, r.about(1));
    }

    static void promise12_alwaysTheFirstReadyOne() {
        Run r = new Run();
        r.putAndFlush(1, 1);
        r.put(2, 0);
        r.due(2, r.settle(2));
        r.due(2, r.waiting(0, 0));
        r.due(3, r.waiting(1, 0));
        r.due(1, r.settle(1));
        r.due(1, r.record(1, 0));
    }

    static void promise12_off() {
        Twins.dueUnchanged(EdgesOfPromises::usedAndOff, 0, r -> r.settle(200));
        Twins.dueUnchanged(EdgesOfPromises::usedAndOff, -1, r -> r.settle(201));
        Twins.dueUnchanged(EdgesOfPromises::usedAndOff, -1, r -> r.settle(-1));
    }

    // ---- 13: crash ----

    static void promise13_noWritesWereLost() {
        Run r = new Run();
        used(r);
        r.due(0, r.about(1));
        r.due(0, r.crash());
    }

    static void promise13_120WritesWereLost() {
        Run r = new Run();
        States.crowded(r, 120);
        r.due(120, r.crash());
        r.due(0, r.about(1));
        r.due(0, r.recover());
        r.put(1, 0);
        r.due(120, r.waiting(0, 0));
    }

    static void promise13_off() {
        Twins.dueUnchanged(EdgesOfPromises::usedAndOff, -1, r -> r.crash());
    }

    static void promise13_againBehindARecover() {
        Run r = new Run();
        used(r);
        r.due(0, r.crash());
        r.due(-1, r.crash());
        r.due(2, r.recover());
        r.due(0, r.crash());
        r.due(2, r.recover());
    }

    // ---- 14: recover ----

    static void promise14_notOff() {
        Twins.dueUnchanged(r -> r.about(0), -1, r -> r.recover());
        Twins.dueUnchanged(EdgesOfPromises::used, -1, r -> r.recover());
        Twins.dueUnchanged(r -> {
            usedAndOff(r);
            r.recover();
        }, -1, r -> r.recover());
    }

    static void promise14_noKeys() {
        Run r = new Run();
        r.put(1, 0);
        r.crash();
        r.due(0, r.recover());
    }

    static void promise14_allKeys() {
        Run r = new Run();
        for (int key = 0; key < 48; key++) {
            r.put(key, 0);
        }
        r.flush();
        r.settle(200);
        r.crash();
        r.due(48, r.recover());
    }

    static void promise14_keysThatAreGoneHaveNoPlace() {
        Run r = new Run();
        used(r);
        r.flush();
        r.settle(200);
        r.crash();
        r.due(1, r.recover());
    }

    static void promise14_keysOfAllThreeTablesCountOnce() {
        Run r = new Run();
        r.put(1, 0);
        r.putAndFlush(2, 1);
        r.put(2, 0);
        r.putAndFlush(3, 1);
        r.put(3, 0);
        r.putAndFlush(1, 1);
        r.settle(200);
        r.crash();
        r.due(3, r.recover());
        r.due(3, r.about(8));
    }

    // ---- 15: about ----

    static void promise15_firstAndLastAndJustOutside() {
        Run r = new Run();
        used(r);
        r.due(3, r.about(0));
        r.due(0, r.about(11));
        for (int what : new int[] {-1, 12, LOW, HIGH}) {
            r.due(-1, r.about(what));
        }
    }

    static void promise15_each() {
        Run r = new Run();
        used(r);
        r.store(9, 9);
        r.dueAbout(4, 2, 2, 7, 0, 1, 1, 2, 1, 2, 4, 0);
    }

    static void promise15_off() {
        Run r = new Run();
        used(r);
        r.put(9, 0);
        r.crash();
        r.dueAbout(4, 0, 0, 0, -1, 1, 0, 2, 0, 0, 0, 1);
        for (int what : new int[] {-1, 12, LOW, HIGH}) {
            r.due(-1, r.about(what));
        }
    }

    static void promise15_latestRecordMadeAndOnTheDisk() {
        Run r = new Run();
        r.putAndFlush(1, 2);
        r.settle(3);
        r.due(2, r.about(6));
        r.due(1, r.about(7));
        r.settle(3);
        r.due(2, r.about(7));
    }

    static void promise15_emptyExtentsFrom8To0() {
        Run r = new Run();
        r.due(8, r.about(3));
        States.withNoneEmpty(r, 0);
        r.due(0, r.about(3));
        r.due(7, r.about(4));
    }

    // ---- 16: waiting ----

    static void promise16_noneWaits() {
        Run r = new Run();
        for (int k : new int[] {-1, 0, 1, 119, 120, LOW, HIGH}) {
            r.due(-1, r.waiting(k, 0));
        }
    }

    static void promise16_firstAndLastAndJustOutside() {
        Run r = new Run();
        States.crowded(r, 120);
        r.due(0, r.waiting(0, 0));
        r.due(119, r.waiting(119, 0));
        for (int k : new int[] {-1, 120, LOW, HIGH}) {
            for (int what = 0; what <= 2; what++) {
                r.due(-1, r.waiting(k, what));
            }
        }
        r.settle(1);
        r.due(1, r.waiting(0, 0));
        r.due(119, r.waiting(118, 0));
        r.due(-1, r.waiting(119, 0));
    }

    static void promise16_whatJustOutside() {
        Run r = new Run();
        threeReady(r);
        for (int what : new int[] {-1, 3, LOW, HIGH}) {
            r.due(-1, r.waiting(0, what));
            r.due(-1, r.waiting(4, what));
        }
    }

    static void promise16_theLastBlockAndBothSlots() {
        Run r = new Run();
        States.withNoneEmpty(r, 2);
        r.due(2, r.about(6));
        r.put(1, 0);
        r.flush();
        r.dueTargets(0, 126, 127, 129);
        r.settle(200);
        r.due(0, r.reclaim(1));
        r.dueTargets(0, 128);
    }

    static void promise16_forHowManyItStillWaits() {
        Run r = new Run();
        threeReady(r);
        r.dueWaits(0, 0, 0, 0, 3, 1);
        r.issue(1);
        r.dueWaits(0, 0, 0, 2, 1);
        r.issue(0);
        r.issue(0);
        r.dueWaits(0, 0, 1);
        r.issue(0);
        r.dueWaits(0, 0, -1);
    }

    static void promise16_off() {
        Run r = new Run();
        threeReady(r);
        r.crash();
        r.due(-1, r.waiting(0, 0));
    }

    // ---- 17: extent ----

    static void promise17_firstAndLastAndJustOutside() {
        Run r = new Run();
        used(r);
        r.due(3, r.extent(0, 0));
        r.due(2, r.extent(0, 1));
        r.due(0, r.extent(7, 0));
        r.due(0, r.extent(7, 1));
        for (int e : new int[] {-1, 8, LOW, HIGH}) {
            r.due(-1, r.extent(e, 0));
            r.due(-1, r.extent(e, 1));
        }
    }

    static void promise17_whatJustOutside() {
        Run r = new Run();
        used(r);
        for (int what : new int[] {-1, 2, LOW, HIGH}) {
            r.due(-1, r.extent(0, what));
            r.due(-1, r.extent(7, what));
        }
    }

    static void promise17_allBlocksLiveAndNone() {
        Run r = new Run();
        r.storeSeven(1);
        r.storeSeven(2);
        r.store(3, 24);
        r.due(16, r.extent(0, 0));
        r.due(16, r.extent(0, 1));
        r.delete(1);
        r.delete(2);
        r.delete(3);
        r.due(16, r.extent(0, 0));
        r.due(0, r.extent(0, 1));
    }

    static void promise17_ofTheLastExtent() {
        Run r = new Run();
        States.withNoneEmpty(r, 2);
        r.due(14, r.extent(7, 0));
        r.due(2, r.extent(7, 1));
        r.store(1, 9);
        r.due(16, r.extent(7, 0));
        r.due(4, r.extent(7, 1));
        r.due(0, r.about(5));
    }

    static void promise17_tablesLiveTillAMergedOneTakesTheirPlace() {
        Run r = new Run();
        r.putAndFlush(1, 3);
        r.due(4, r.extent(0, 1));
        r.delete(1);
        r.due(3, r.extent(0, 1));
        r.flush();
        r.due(1, r.extent(0, 1));
    }

    static void promise17_off() {
        Run r = new Run();
        usedAndOff(r);
        r.due(-1, r.extent(0, 0));
        r.due(-1, r.extent(0, 1));
        r.due(-1, r.extent(8, 0));
    }

    // ---- 18: disk ----

    static void promise18_firstAndLastByte() {
        Run r = new Run();
        States.withNoneEmpty(r, 1);
        r.store(1, 8);
        r.due(127, r.waiting(0, 1));
        r.due(0, r.disk(7, 15, 15));
        r.settle(200);
        r.due(165, r.disk(0, 0, 0));
        r.due(165, r.disk(7, 15, 0));
        r.due(127, r.disk(7, 15, 15));
    }

    static void promise18_justOutside() {
        Run r = new Run();
        used(r);
        for (int n : new int[] {-1, LOW, HIGH}) {
            r.due(-1, r.disk(n, 0, 0));
            r.due(-1, r.disk(0, n, 0));
            r.due(-1, r.disk(0, 0, n));
        }
        r.due(-1, r.disk(8, 0, 0));
        r.due(-1, r.disk(0, 16, 0));
        r.due(-1, r.disk(0, 0, 16));
        r.due(-1, r.disk(-1, 16, 0));
        r.due(-1, r.disk(0, 1, -16));
    }

    static void promise18_whatWaitsIsNotThereYet() {
        Run r = new Run();
        r.store(1, 3);
        r.dueWholeBlock(0, 0);
        r.settle(1);
        r.dueWholeBlock(0, 0, 165, 1, 1, 3, 0, 0, 1, 2, 3, 0, 0);
    }

    static void promise18_off() {
        Run r = new Run();
        usedAndOff(r);
        r.due(165, r.disk(0, 0, 0));
        r.due(-1, r.disk(8, 0, 0));
    }

    // ---- 19: record ----

    static void promise19_slotsAndJustOutside() {
        Run r = new Run();
        used(r);
        r.due(0, r.record(0, 0));
        r.due(1, r.record(1, 0));
        for (int slot : new int[] {-1, 2, LOW, HIGH}) {
            r.due(-1, r.record(slot, 0));
        }
    }

    static void promise19_whatJustOutside() {
        Run r = new Run();
        r.putAndFlush(1, 3);
        r.settle(200);
        r.due(0, r.record(1, 16));
        r.due(1, r.record(1, 17));
        for (int what : new int[] {-1, 18, LOW, HIGH}) {
            r.due(-1, r.record(0, what));
            r.due(-1, r.record(1, what));
        }
    }

    static void promise19_noneInASlot() {
        Run r = new Run();
        for (int what = -1; what <= 18; what++) {
            r.due(-1, r.record(1, what));
        }
    }

    static void promise19_tablesThatARecordDoesNotHave() {
        Run r = new Run();
        r.putAndFlush(1, 2);
        r.settle(200);
        r.dueRecord(1, 1, 1, 2, 1, 2, 0, 0, 0, 0, 0, 0, 0, 0, 1, -1, -1, -1, -1);
        r.dueRecord(0, 2, 2, 4, 2, 4, 0, 0, 0, 0, 0, 0, 0, 0, 3, 0, 1, -1, -1);
    }

    static void promise19_pointersOfAllExtents() {
        Run r = new Run();
        States.withNoneEmpty(r, 2);
        r.due(1, r.flush());
        r.settle(200);
        r.dueRecord(1, 3, 124, 127, 3, 16, 16, 16, 16, 16, 16, 16, 15, 7, 14, 7, 0, 6, 0);
    }

    static void promise19_theRecordStaysAsItWasMade() {
        Run r = new Run();
        r.putAndFlush(1, 1);
        r.settle(200);
        r.storeSeven(2);
        r.dueRecord(1, 1, 1, 2, 1, 2, 0, 0, 0, 0, 0, 0, 0, 0, 1, -1);
    }

    static void promise19_off() {
        Run r = new Run();
        usedAndOff(r);
        r.due(1, r.record(1, 0));
        r.due(2, r.record(1, 1));
        r.due(0, r.record(0, 0));
        r.due(-1, r.record(2, 0));
    }
}
