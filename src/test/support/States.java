/** States at an edge of the room on the disk or of the writes that may wait. */
final class States {
    private States() {
    }

    /** 117 to 120 writes wait, three extents are EMPTY; extent 0 is full and nothing lives in it. */
    static void crowded(Run r, int waiting) {
        int ones = 120 - waiting == 0 ? 0 : 3 - (120 - waiting);
        r.putAndFlush(0, waiting == 120 ? 40 : 39);
        r.putOnes(0, ones);
        r.due(waiting, r.about(1));
    }

    /** Six extents are full, one of them open; two are EMPTY; 120 writes wait, and key 0 changed. */
    static void crowdedWithoutRoomForPut(Run r) {
        r.putAndFlush(0, 24);
        r.putOnes(0, 48);
        r.due(120, r.about(1));
        r.due(2, r.about(3));
    }

    /** All extents are full, the last one is open; 120 writes wait, and key 0 changed. */
    static void crowdedWithoutAnyRoom(Run r) {
        crowdedWithoutRoomForPut(r);
        r.settle(34);
        r.flush();
        r.putOnes(0, 15);
        r.flush();
        r.putOnes(0, 15);
        r.due(120, r.about(1));
        r.due(0, r.about(3));
        r.due(16, r.extent(7, 0));
    }

    /** Six extents are full, one of them open; two are EMPTY; nothing waits; key 0 changed. */
    static void withoutRoomForPut(Run r) {
        r.putOnes(0, 96);
        r.settle(200);
        r.due(2, r.about(3));
    }

    /** Seven extents are full, one of them open; one is EMPTY; nothing waits; key 0 changed. */
    static void withOneEmpty(Run r) {
        withoutRoomForPut(r);
        r.flush();
        r.putOnes(0, 15);
        r.settle(200);
        r.due(1, r.about(3));
        r.due(16, r.extent(6, 0));
    }

    /** No extent is EMPTY, the open one, 7, has so many blocks left; nothing waits; key 0 changed. */
    static void withNoneEmpty(Run r, int left) {
        withOneEmpty(r);
        r.flush();
        r.putOnes(0, 15 - left);
        r.settle(200);
        r.due(0, r.about(3));
        r.due(16 - left, r.extent(7, 0));
    }

    /**
     * Extent 0 is full of the objects of keys 0 to 15, of a block each; all others but 7 are full
     * too, 6 is open; nothing waits; key 20 changed, and a table of four blocks tells the rest.
     */
    static void withOneEmptyAndSixteenInExtent0(Run r) {
        for (int key = 0; key < 16; key++) {
            r.put(key, 0);
        }
        r.putOnes(20, 80);
        r.settle(200);
        r.flush();
        r.putOnes(20, 12);
        r.settle(200);
        r.due(1, r.about(3));
        r.due(16, r.extent(6, 0));
        r.due(16, r.extent(0, 1));
    }
}
