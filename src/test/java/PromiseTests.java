/** Each promise of the document by hand: ordinary inputs, the edges it names, and wrong inputs. */
public final class PromiseTests {
    private static final int NONE = -1;
    private static final int LOW = Integer.MIN_VALUE;
    private static final int HIGH = Integer.MAX_VALUE;
    private static int wrong = 0;

    public static void main(String[] args) {
        newObject();
        feed();
        put();
        putNoRoom();
        putTooMany();
        putInOffStore();
        delete();
        get();
        getThroughTheCache();
        octet();
        list();
        flush();
        flushMerges();
        flushRefused();
        reclaim();
        reclaimWithoutChanges();
        reclaimOfATable();
        reclaimTwiceOverOneExtent();
        reclaimRefused();
        poll();
        issue();
        settle();
        crash();
        recover();
        about();
        waiting();
        extent();
        disk();
        record();
        System.out.println(wrong == 0 ? "all answers are as due" : wrong + " answers are not as due");
        if (wrong != 0) {
            System.exit(1);
        }
    }

    private static void due(int promise, String call, long got, long want) {
        if (got != want) {
            wrong++;
            System.out.println("promise " + promise + ": " + call + " answered " + got
                    + ", due is " + want);
        }
    }

    /** Puts n bytes: 1, 2, 3 and so on. */
    private static int store(WaitingWrites x, int key, int n) {
        for (int fed = 0; fed < n; fed += 20) {
            x.feed(word(fed), word(fed + 4), word(fed + 8), word(fed + 12), word(fed + 16));
        }
        return x.put(key, n);
    }

    private static int word(int before) {
        return (before + 1) << 24 | (before + 2) << 16 | (before + 3) << 8 | (before + 4);
    }

    private static void dueBytes(int promise, WaitingWrites x, int extent, int block, int... bytes) {
        for (int i = 0; i < bytes.length; i++) {
            due(promise, "disk(" + extent + ", " + block + ", " + i + ")",
                    x.disk(extent, block, i), bytes[i]);
        }
    }

    private static void dueAbout(int promise, WaitingWrites x, int... wants) {
        for (int what = 0; what < wants.length; what++) {
            due(promise, "about(" + what + ")", x.about(what), wants[what]);
        }
    }

    private static void dueRecord(int promise, WaitingWrites x, int slot, int... wants) {
        for (int what = 0; what < wants.length; what++) {
            due(promise, "record(" + slot + ", " + what + ")", x.record(slot, what), wants[what]);
        }
    }

    private static void newObject() {
        WaitingWrites x = new WaitingWrites();
        dueAbout(1, x, 0, 0, 0, 8, NONE, 0, 0, 0, 0, 0, 0, 0);
        dueRecord(1, x, 0, 0, 0, 0, 0, 0, 0, 0, 0, 0, 0, 0, 0, NONE, NONE, NONE, NONE, NONE, NONE);
        for (int what = 0; what < 18; what++) {
            due(1, "record(1, " + what + ")", x.record(1, what), NONE);
        }
        for (int e = 0; e < 8; e++) {
            due(1, "extent(" + e + ", 0)", x.extent(e, 0), 0);
            due(1, "extent(" + e + ", 1)", x.extent(e, 1), 0);
            for (int b = 0; b < 16; b++) {
                due(1, "disk(" + e + ", " + b + ", 15)", x.disk(e, b, 15), 0);
            }
        }
        due(1, "recover()", x.recover(), NONE);
        due(1, "list(0)", x.list(0), NONE);
        due(1, "octet(0)", x.octet(0), NONE);
        due(1, "put(0, 1)", x.put(0, 1), NONE);
        due(1, "feed", x.feed(0, 0, 0, 0, 0), 20);
        due(1, "NONE", WaitingWrites.NONE, -1);
    }

    private static void feed() {
        WaitingWrites x = new WaitingWrites();
        due(2, "feed", x.feed(0x01020304, -1, LOW, 0x00FF0000, 127), 20);
        for (int n = 2; n <= 10; n++) {
            due(2, "feed", x.feed(n, n, n, n, n), 20 * n);
        }
        due(2, "feed of too much", x.feed(9, 9, 9, 9, 9), NONE);
        due(2, "feed of too much", x.feed(9, 9, 9, 9, 9), NONE);
        due(2, "put(7, 40)", x.put(7, 40), 1);
        due(2, "get(7)", x.get(7), 40);
        int[] want = {1, 2, 3, 4, 255, 255, 255, 255, 128, 0, 0, 0, 0, 255, 0, 0, 0, 0, 0, 127,
            0, 0, 0, 2, 0, 0, 0, 2};
        for (int i = 0; i < want.length; i++) {
            due(2, "octet(" + i + ")", x.octet(i), want[i]);
        }
        due(2, "feed behind put", x.feed(0, 0, 0, 0, 0), 20);
        x.crash();
        due(2, "feed when OFF", x.feed(0, 0, 0, 0, 0), 40);
        x.recover();
        due(2, "feed behind recover", x.feed(0, 0, 0, 0, 0), 60);
    }

    private static void put() {
        WaitingWrites x = new WaitingWrites();
        x.feed(word(0), word(4), word(8), word(12), word(16));
        due(3, "put(-1, 3)", x.put(-1, 3), NONE);
        due(3, "put(48, 3)", x.put(48, 3), NONE);
        due(3, "put(LOW, 3)", x.put(LOW, 3), NONE);
        due(3, "put(HIGH, 3)", x.put(HIGH, 3), NONE);
        due(3, "put(3, -1)", x.put(3, -1), NONE);
        due(3, "put(3, 21)", x.put(3, 21), NONE);
        due(3, "put(3, LOW)", x.put(3, LOW), NONE);
        due(3, "put(3, HIGH)", x.put(3, HIGH), NONE);
        due(3, "mutations", x.about(0), 0);
        due(3, "put(47, 20)", x.put(47, 20), 1);
        due(3, "put(0, 1) of an empty tape", x.put(0, 1), NONE);
        due(3, "put(0, 0)", x.put(0, 0), 2);
        due(3, "store(5, 8)", store(x, 5, 8), 3);
        due(3, "the rest of the tape is gone", x.put(5, 1), NONE);
        due(3, "store(5, 9)", store(x, 5, 9), 4);
        due(3, "open", x.about(4), 0);
        due(3, "blocks", x.extent(0, 0), 2 + 1 + 1 + 2);
        due(3, "waiting", x.about(1), 6);
        due(3, "changes", x.about(9), 3);
        due(3, "STAMPS", x.about(10), 4);
        due(3, "READY", x.about(2), 6);
        x.settle(200);
        dueBytes(3, x, 0, 0, 165, 1, 47, 20, 0, 0, 1, 2, 3, 4, 5, 6, 7, 8, 9, 10);
        dueBytes(3, x, 0, 1, 11, 12, 13, 14, 15, 16, 17, 18, 19, 20, 0, 0, 0, 0, 0, 0);
        dueBytes(3, x, 0, 2, 165, 1, 0, 0, 0, 1, 0, 1, 0, 0, 0, 0, 0, 0, 0, 0);
        dueBytes(3, x, 0, 3, 165, 1, 5, 8, 0, 2, 1, 2, 3, 4, 5, 6, 7, 8, 0, 2);
        dueBytes(3, x, 0, 4, 165, 1, 5, 9, 0, 3, 1, 2, 3, 4, 5, 6, 7, 8, 9, 0);
        dueBytes(3, x, 0, 5, 3, 0, 0, 0, 0, 0, 0, 0, 0, 0, 0, 0, 0, 0, 0, 0);
        for (int n = 0; n < 6; n++) {
            x.feed(1, 1, 1, 1, 1);
        }
        due(3, "put(1, 101)", x.put(1, 101), NONE);
        due(3, "put(1, 100)", x.put(1, 100), 5);
        due(3, "pointer", x.extent(0, 0), 13);
        due(3, "store(2, 40), 3 blocks", store(x, 2, 40), 6);
        due(3, "pointer", x.extent(0, 0), 16);
        due(3, "a full one is open", x.about(4), 0);
        due(3, "store(2, 0)", store(x, 2, 0), 7);
        due(3, "the next one is open", x.about(4), 1);
    }

    private static void putNoRoom() {
        WaitingWrites x = new WaitingWrites();
        for (int n = 1; n <= 12; n++) {
            due(3, "store 7 blocks", store(x, n, 100), n);
        }
        due(3, "EMPTY", x.about(3), 2);
        due(3, "no room for 7 blocks", store(x, 1, 100), -2);
        due(3, "the tape is empty then", x.feed(0, 0, 0, 0, 0), 20);
        due(3, "nothing was made", x.about(10), 12);
        due(3, "no mutation", x.about(0), 12);
        due(3, "the open one", x.about(4), 5);
        due(3, "2 blocks fit", x.put(40, 20), 13);
        due(3, "no room for 1 block", x.put(41, 0), -2);
        due(3, "flush may open one", x.flush(), 1);
        due(3, "EMPTY", x.about(3), 1);
        due(3, "put in what flush opened", store(x, 42, 100), 14);
    }

    private static void putTooMany() {
        WaitingWrites x = new WaitingWrites();
        crowd(x, 40);
        due(3, "waiting", x.about(1), 120);
        due(3, "EMPTY", x.about(3), 3);
        x.feed(0, 0, 0, 0, 0);
        due(3, "too many writes", x.put(0, 1), -3);
        due(3, "the tape is empty then", x.put(0, 1), NONE);
        due(3, "no mutation", x.about(0), 40);
        due(3, "no extent was opened", x.about(3), 3);
        due(3, "settle(1)", x.settle(1), 1);
        due(3, "two writes are one too many", store(x, 0, 20), -3);
        due(3, "one write", store(x, 0, 8), 41);
        due(3, "waiting", x.about(1), 120);
    }

    /** One block and one table's, one record: two blocks and three writes each. */
    private static void crowd(WaitingWrites x, int times) {
        for (int n = 0; n < times; n++) {
            due(3, "put(0, 0) >= 1", x.put(0, 0) >= 1 ? 1 : 0, 1);
            due(8, "flush()", x.flush(), 1);
        }
    }

    private static void putInOffStore() {
        WaitingWrites x = new WaitingWrites();
        x.feed(0, 0, 0, 0, 0);
        x.crash();
        due(3, "put when OFF", x.put(0, 20), NONE);
        x.recover();
        due(3, "the tape stayed", x.put(0, 20), 1);
    }

    private static void delete() {
        WaitingWrites x = new WaitingWrites();
        for (int key : new int[] {-1, 0, 47, 48, LOW, HIGH}) {
            due(4, "delete(" + key + ")", x.delete(key), NONE);
        }
        store(x, 9, 5);
        due(4, "delete(9)", x.delete(9), 2);
        due(4, "delete(9) again", x.delete(9), NONE);
        due(4, "get(9)", x.get(9), NONE);
        due(4, "changes", x.about(9), 1);
        due(4, "no write", x.about(1), 1);
        due(4, "no chunk", x.about(10), 1);
        due(4, "store(9)", store(x, 9, 6), 3);
        due(4, "get(9)", x.get(9), 6);
        x.flush();
        due(4, "delete of what a table names", x.delete(9), 4);
        due(4, "list(0)", x.list(0), NONE);
        due(4, "flush()", x.flush(), 1);
        x.settle(200);
        dueBytes(4, x, 0, 3, 165, 2, 0, 4, 0, 3, 1, 9, 255, 0, 0, 3, 0, 0, 0, 0);
        due(4, "delete of what a table says is gone", x.delete(9), NONE);
        due(4, "poll(4)", x.poll(4), 1);
        store(x, 9, 6);
        x.crash();
        due(4, "delete when OFF", x.delete(9), NONE);
        x.recover();
        due(4, "delete behind recover", x.delete(9), NONE);
    }

    private static void get() {
        WaitingWrites x = new WaitingWrites();
        for (int key : new int[] {-1, 0, 47, 48, LOW, HIGH}) {
            due(5, "get(" + key + ")", x.get(key), NONE);
        }
        store(x, 0, 100);
        store(x, 47, 0);
        due(5, "get(0)", x.get(0), 100);
        due(5, "octet(99)", x.octet(99), 100);
        due(5, "get(47)", x.get(47), 0);
        due(5, "octet(0)", x.octet(0), NONE);
        store(x, 0, 3);
        due(5, "get(0) of the later one", x.get(0), 3);
        due(5, "get(1)", x.get(1), NONE);
        due(5, "the output stays", x.octet(2), 3);
        due(5, "no READ of what waits", x.about(5), 0);
        x.flush();
        x.settle(200);
        x.crash();
        due(5, "get when OFF", x.get(0), NONE);
        due(5, "the output stays", x.octet(2), 3);
        due(5, "and is as long", x.octet(3), NONE);
        x.recover();
        due(5, "get(0)", x.get(0), 3);
        due(5, "get(47)", x.get(47), 0);
    }

    private static void getThroughTheCache() {
        WaitingWrites x = new WaitingWrites();
        store(x, 0, 50);
        store(x, 1, 20);
        store(x, 2, 0);
        x.settle(4);
        due(5, "get(0), 4 blocks", x.get(0), 50);
        due(5, "READ", x.about(5), 4);
        due(5, "get(1) waits still", x.get(1), 20);
        due(5, "READ", x.about(5), 4);
        x.settle(1);
        due(5, "get(1), the first block is on the disk", x.get(1), 20);
        due(5, "READ", x.about(5), 5);
        due(5, "octet(19)", x.octet(19), 20);
        x.settle(200);
        x.get(1);
        due(5, "READ, the second block", x.about(5), 6);
        x.get(0);
        due(5, "READ, all in the cache", x.about(5), 6);
        x.get(2);
        due(5, "READ, one more: the first block of key 1 goes", x.about(5), 7);
        x.get(0);
        due(5, "READ, key 0 is in the cache still", x.about(5), 7);
        x.get(1);
        due(5, "READ, its first block takes the place of its second", x.about(5), 9);
        x.crash();
        due(5, "READ stays when OFF", x.about(5), 9);
    }

    private static void octet() {
        WaitingWrites x = new WaitingWrites();
        due(6, "octet(0)", x.octet(0), NONE);
        x.feed(-1, 0, 0, 0, 0);
        x.put(0, 6);
        due(6, "octet(0) ahead of get", x.octet(0), NONE);
        x.get(0);
        due(6, "octet(0)", x.octet(0), 255);
        due(6, "octet(3)", x.octet(3), 255);
        due(6, "octet(4)", x.octet(4), 0);
        due(6, "octet(5)", x.octet(5), 0);
        for (int i : new int[] {-1, 6, 200, LOW, HIGH}) {
            due(6, "octet(" + i + ")", x.octet(i), NONE);
        }
        store(x, 0, 2);
        due(6, "octet(5) behind a put", x.octet(5), 0);
        x.crash();
        due(6, "octet(5) when OFF", x.octet(5), 0);
    }

    private static void list() {
        WaitingWrites x = new WaitingWrites();
        store(x, 47, 1);
        store(x, 0, 1);
        store(x, 20, 1);
        int[] want = {0, 20, 47};
        for (int k = 0; k < 3; k++) {
            due(7, "list(" + k + ")", x.list(k), want[k]);
        }
        for (int k : new int[] {-1, 3, 48, LOW, HIGH}) {
            due(7, "list(" + k + ")", x.list(k), NONE);
        }
        x.flush();
        x.delete(0);
        due(7, "list(0)", x.list(0), 20);
        due(7, "list(1)", x.list(1), 47);
        due(7, "list(2)", x.list(2), NONE);
        x.settle(200);
        x.crash();
        due(7, "list(0) when OFF", x.list(0), NONE);
        x.recover();
        due(7, "list(0) as the record tells", x.list(0), 0);
    }

    private static void flush() {
        WaitingWrites x = new WaitingWrites();
        due(8, "flush()", x.flush(), 0);
        due(8, "no record", x.about(6), 0);
        store(x, 30, 20);
        store(x, 2, 5);
        due(8, "flush()", x.flush(), 1);
        due(8, "flush() again", x.flush(), 0);
        dueAbout(8, x, 2, 5, 3, 7, 0, 0, 1, 0, 1, 0, 3, 0);
        due(8, "table waits for objects", x.waiting(3, 2), 3);
        due(8, "record waits for the table", x.waiting(4, 2), 1);
        due(8, "into slot 1", x.waiting(4, 1), 129);
        x.settle(200);
        dueBytes(8, x, 0, 3, 165, 2, 0, 7, 0, 2, 2, 2, 0, 2, 30, 0, 0, 0, 2, 0);
        dueRecord(8, x, 1, 1, 2, 3, 1, 4, 0, 0, 0, 0, 0, 0, 0, 0, 3, NONE, NONE);
        x.delete(2);
        due(8, "flush()", x.flush(), 1);
        due(8, "the record ahead is on the disk", x.waiting(1, 2), 1);
        due(8, "into slot 0", x.waiting(1, 1), 128);
        due(8, "tables", x.about(8), 2);
        x.put(3, 0);
        due(8, "flush()", x.flush(), 1);
        due(8, "table waits for one object", x.waiting(3, 2), 1);
        due(8, "record waits for the record ahead too", x.waiting(4, 2), 2);
        x.settle(200);
        dueRecord(8, x, 0, 2, 3, 4, 2, 5, 0, 0, 0, 0, 0, 0, 0, 0, 4, 0, 3, NONE, NONE);
        dueRecord(8, x, 1, 3, 4, 6, 3, 7, 0, 0, 0, 0, 0, 0, 0, 0, 6, 0, 4, 0, 3);
        x.crash();
        due(8, "flush() when OFF", x.flush(), NONE);
    }

    private static void flushMerges() {
        WaitingWrites x = new WaitingWrites();
        for (int key = 10; key < 13; key++) {
            x.put(key, 0);
            x.flush();
        }
        x.settle(200);
        due(8, "tables", x.about(8), 3);
        x.delete(11);
        x.put(1, 0);
        due(8, "flush() that merges", x.flush(), 1);
        due(8, "tables", x.about(8), 1);
        due(8, "live: three objects and a table of two blocks", x.extent(0, 1), 5);
        x.settle(200);
        dueBytes(8, x, 0, 7, 165, 2, 0, 10, 0, 7, 3, 1, 0, 6, 10, 0, 0, 12, 0, 4);
        dueBytes(8, x, 0, 8, 0, 7, 0);
        dueRecord(8, x, 0, 4, 5, 8, 1, 9, 0, 0, 0, 0, 0, 0, 0, 0, 7, NONE, NONE, NONE, NONE);
        x.crash();
        due(8, "recover()", x.recover(), 3);
        due(8, "get(11)", x.get(11), NONE);
        due(8, "get(12)", x.get(12), 0);

        WaitingWrites y = new WaitingWrites();
        for (int n = 0; n < 3; n++) {
            y.put(5, 0);
            y.flush();
        }
        y.delete(5);
        due(8, "flush() of no keys", y.flush(), 1);
        y.settle(200);
        dueBytes(8, y, 0, 6, 165, 2, 0, 1, 0, 6, 0, 0, 6, 0, 0, 0, 0, 0, 0, 0);
        y.crash();
        due(8, "recover()", y.recover(), 0);
    }

    private static void flushRefused() {
        WaitingWrites x = new WaitingWrites();
        crowd(x, 39);
        x.put(0, 0);
        x.put(1, 0);
        due(8, "waiting", x.about(1), 119);
        due(8, "flush() with room for one write", x.flush(), -3);
        due(8, "changes stay", x.about(9), 2);
        due(8, "STAMPS", x.about(10), 80);
        x.settle(1);
        due(8, "flush() with room for two", x.flush(), 1);
        due(8, "its record's write", x.waiting(119, 0), 120);

        WaitingWrites z = new WaitingWrites();
        crowd(z, 34);
        z.put(0, 0);
        for (int key = 0; key < 13; key++) {
            z.put(key, 0);
        }
        due(8, "waiting", z.about(1), 116);
        due(8, "flush() of 13 entries: three blocks to the last byte", z.flush(), 1);
        due(8, "waiting", z.about(1), 120);

        WaitingWrites y = full();
        due(8, "EMPTY", y.about(3), 0);
        due(8, "pointer of the open one", y.extent(7, 0), 16);
        y.delete(1);
        due(8, "flush() without room", y.flush(), -2);
        due(8, "changes stay", y.about(9), 4);
        due(8, "record", y.about(6), 2);
        due(8, "STAMPS", y.about(10), 20);
    }

    /** All extents in use, the open one to its end, and all on the disk; three changes. */
    private static WaitingWrites full() {
        WaitingWrites x = new WaitingWrites();
        for (int n = 0; n < 12; n++) {
            store(x, n, 100);
        }
        store(x, 12, 20);
        x.flush();
        store(x, 13, 100);
        store(x, 14, 80);
        x.settle(200);
        x.flush();
        store(x, 15, 100);
        store(x, 16, 100);
        x.put(17, 0);
        x.settle(200);
        return x;
    }

    private static void reclaim() {
        WaitingWrites x = new WaitingWrites();
        store(x, 8, 100);
        store(x, 3, 100);
        store(x, 5, 100);
        due(9, "reclaim of the open one", x.reclaim(1), NONE);
        for (int e : new int[] {-1, 8, 2, 7, LOW, HIGH}) {
            due(9, "reclaim(" + e + ")", x.reclaim(e), NONE);
        }
        x.settle(3);
        due(9, "reclaim(0)", x.reclaim(0), 2);
        due(9, "three blocks were READ", x.about(5), 3);
        dueAbout(9, x, 3, 35, 18 + 14, 6, 2, 3, 1, 0, 1, 0, 6, 0);
        due(9, "pointer", x.extent(0, 0), 0);
        due(9, "key 8 moved first", x.waiting(18, 1), 16 + 7);
        due(9, "then key 3", x.waiting(25, 1), 32);
        due(9, "the table", x.waiting(32, 1), 32 + 7);
        due(9, "it waits for three objects", x.waiting(32, 2), 21);
        due(9, "so does its second block", x.waiting(33, 2), 21);
        due(9, "the record waits for the table and 11 of extent 0", x.waiting(34, 2), 13);
        due(9, "get(3)", x.get(3), 100);
        due(9, "octet(99)", x.octet(99), 100);
        x.put(1, 0);
        due(9, "in extent 2 nothing holds it back", x.waiting(35, 2), 0);
        store(x, 1, 100);
        due(9, "extent 0 is taken again", x.waiting(36, 1), 0);
        due(9, "there the record that emptied it does", x.waiting(36, 2), 1);
        due(9, "of each block", x.waiting(42, 2), 1);
        x.settle(200);
        store(x, 2, 100);
        due(9, "on the disk, the record holds nothing back", x.waiting(0, 2), 0);
        due(9, "block 7", x.waiting(0, 1), 7);
        x.settle(200);
        dueBytes(9, x, 1, 7, 165, 1, 8, 100, 0, 3, 1, 2);
        dueBytes(9, x, 2, 0, 165, 1, 3, 100, 0, 4, 1, 2);
        dueBytes(9, x, 2, 7, 165, 2, 0, 10, 0, 5, 3, 3, 2, 0, 5, 1, 0, 8, 1, 7);
        dueRecord(9, x, 1, 1, 3, 6, 1, 0, 14, 9, 0, 0, 0, 0, 0, 2, 7, NONE, NONE);
        x.crash();
        due(9, "reclaim when OFF", x.reclaim(1), NONE);
        due(9, "recover()", x.recover(), 3);
        due(9, "get(8)", x.get(8), 100);
    }

    private static void reclaimWithoutChanges() {
        WaitingWrites x = new WaitingWrites();
        store(x, 0, 100);
        store(x, 0, 100);
        store(x, 0, 100);
        x.flush();
        x.settle(2);
        due(9, "reclaim of an extent where nothing lives", x.reclaim(0), 0);
        due(9, "no table was made", x.about(10), 4);
        due(9, "one write more", x.about(1), 21 + 2 - 2 + 1);
        due(9, "it waits for the record ahead and 12 blocks", x.waiting(21, 2), 13);
        due(9, "record", x.about(6), 2);
        due(9, "nothing was READ", x.about(5), 0);
        due(9, "the table is the same", x.about(8), 1);
        x.settle(200);
        dueRecord(9, x, 0, 2, 3, 4, 1, 0, 8, 0, 0, 0, 0, 0, 0, 1, 7, NONE, NONE);
    }

    private static void reclaimOfATable() {
        WaitingWrites x = new WaitingWrites();
        store(x, 0, 100);
        x.flush();
        store(x, 0, 100);
        x.flush();
        store(x, 0, 100);
        x.flush();
        x.settle(200);
        due(9, "tables", x.about(8), 3);
        due(9, "live in extent 0: two tables", x.extent(0, 1), 2);
        due(9, "live in extent 1: an object and a table", x.extent(1, 1), 8);
        due(9, "reclaim(0)", x.reclaim(0), 0);
        due(9, "one table, merged", x.about(8), 1);
        due(9, "live in extent 1: an object and the new table", x.extent(1, 1), 8);
        due(9, "pointer", x.extent(1, 0), 9);
        due(9, "the record waits for its table alone", x.waiting(1, 2), 1);
        x.crash();
        due(9, "recover() with the record ahead", x.recover(), 1);
        due(9, "its tables", x.about(8), 3);
        due(9, "its pointer", x.extent(0, 0), 16);

        WaitingWrites y = new WaitingWrites();
        store(y, 0, 100);
        store(y, 0, 100);
        y.flush();
        store(y, 0, 100);
        y.settle(200);
        due(9, "changes, and a table there", y.reclaim(0), 0);
        due(9, "no changes then", y.about(9), 0);
        due(9, "flush() finds none", y.flush(), 0);
        y.settle(200);
        due(9, "UPTO", y.about(7), 3);

        WaitingWrites z = new WaitingWrites();
        store(z, 0, 100);
        store(z, 1, 100);
        z.delete(0);
        z.delete(1);
        store(z, 2, 100);
        z.delete(2);
        due(9, "only changes that are GONE", z.reclaim(0), 0);
        due(9, "a table of no keys was made", z.about(8), 1);
        due(9, "and a mutation is told", z.settle(200), 7 + 7 + 7 + 2);
        due(9, "UPTO", z.about(7), 6);
    }

    private static void reclaimTwiceOverOneExtent() {
        WaitingWrites x = new WaitingWrites();
        store(x, 0, 100);
        store(x, 0, 100);
        store(x, 1, 100);
        due(9, "reclaim(0)", x.reclaim(0), 1);
        due(9, "the record waits for the table, and 14 blocks", x.waiting(x.about(1) - 1, 2), 15);
        store(x, 2, 100);
        store(x, 3, 100);
        due(9, "open", x.about(4), 0);
        x.flush();
        int table = x.about(1) - 2;
        due(9, "all writes of the blocks it names, the old ones too, and the record",
                x.waiting(table, 2), 14 + 14 + 1);
        store(x, 4, 100);
        x.put(5, 0);
        store(x, 6, 100);
        due(9, "open", x.about(4), 2);
        due(9, "reclaim(0) again", x.reclaim(0), 2);
        int last = x.about(1) - 1;
        due(9, "all still waiting of extent 0: 14 and 15; the record ahead; the table",
                x.waiting(last, 2), 14 + 15 + 1 + 2);
        due(9, "settle(200)", x.settle(200), last + 1);
        due(9, "crash()", x.crash(), 0);
        due(9, "recover()", x.recover(), 7);
    }

    private static void reclaimRefused() {
        WaitingWrites x = full();
        int reads = x.about(5);
        int stamps = x.about(10);
        due(9, "live in extent 1", x.extent(1, 1), 14);
        due(9, "reclaim without room", x.reclaim(1), -2);
        due(9, "its 14 blocks were READ all the same", x.about(5), reads + 14);
        due(9, "STAMPS", x.about(10), stamps);
        due(9, "pointer", x.extent(1, 0), 14);
        due(9, "waiting", x.about(1), 0);

        WaitingWrites y = new WaitingWrites();
        crowd(y, 39);
        y.put(1, 0);
        y.put(2, 0);
        due(9, "waiting", y.about(1), 119);
        due(9, "EMPTY", y.about(3), 3);
        due(9, "reclaim with room for one write", y.reclaim(0), -3);
        due(9, "pointer", y.extent(0, 0), 16);
        due(9, "changes", y.about(9), 2);
        due(9, "STAMPS", y.about(10), 80);
        y.settle(2);
        due(9, "a table of two blocks and a record", y.reclaim(0), 0);
        due(9, "waiting", y.about(1), 120);
        due(9, "no number was used up", y.waiting(119, 0), 121);
    }

    private static void poll() {
        WaitingWrites x = new WaitingWrites();
        for (int handle : new int[] {-1, 0, 1, LOW, HIGH}) {
            due(10, "poll(" + handle + ")", x.poll(handle), NONE);
        }
        x.put(0, 0);
        x.put(1, 0);
        due(10, "poll(1)", x.poll(1), 0);
        due(10, "poll(3)", x.poll(3), NONE);
        x.flush();
        x.delete(0);
        x.settle(3);
        due(10, "poll(2), only the record waits", x.poll(2), 0);
        x.settle(1);
        due(10, "poll(1)", x.poll(1), 1);
        due(10, "poll(2)", x.poll(2), 1);
        due(10, "poll(3)", x.poll(3), 0);
        x.crash();
        due(10, "poll(2) when OFF", x.poll(2), 1);
        due(10, "poll(3) when OFF", x.poll(3), 2);
        due(10, "poll(4) when OFF", x.poll(4), NONE);
        x.recover();
        x.put(4, 0);
        due(10, "poll(4)", x.poll(4), 0);
        x.flush();
        x.settle(200);
        due(10, "UPTO", x.about(7), 4);
        due(10, "poll(2)", x.poll(2), 1);
        due(10, "poll(3) stays lost", x.poll(3), 2);
        due(10, "poll(4)", x.poll(4), 1);
    }

    private static void issue() {
        WaitingWrites x = new WaitingWrites();
        due(11, "issue(0)", x.issue(0), NONE);
        store(x, 0, 30);
        x.flush();
        due(11, "waiting", x.about(1), 5);
        for (int k : new int[] {-1, 3, 4, LOW, HIGH}) {
            due(11, "issue(" + k + ")", x.issue(k), NONE);
        }
        due(11, "issue(2)", x.issue(2), 2);
        due(11, "issue(0)", x.issue(0), 0);
        due(11, "on the disk", x.disk(0, 0, 0), 165);
        due(11, "not on the disk", x.disk(0, 1, 0), 0);
        due(11, "the table is not READY", x.issue(1), NONE);
        due(11, "issue(0)", x.issue(0), 1);
        due(11, "the table", x.issue(0), 3);
        due(11, "no record yet", x.record(1, 0), NONE);
        due(11, "the record", x.issue(0), 4);
        due(11, "the record is there", x.record(1, 0), 1);
        due(11, "none waits", x.issue(0), NONE);
        x.put(1, 0);
        x.crash();
        due(11, "issue when OFF", x.issue(0), NONE);
        x.recover();
        x.put(1, 0);
        due(11, "numbers go on", x.issue(0), 6);
    }

    private static void settle() {
        WaitingWrites x = new WaitingWrites();
        due(12, "settle(0)", x.settle(0), 0);
        due(12, "settle(200)", x.settle(200), 0);
        for (int n : new int[] {-1, 201, LOW, HIGH}) {
            due(12, "settle(" + n + ")", x.settle(n), NONE);
        }
        store(x, 0, 30);
        x.flush();
        due(12, "settle(0)", x.settle(0), 0);
        due(12, "settle(2)", x.settle(2), 2);
        due(12, "the first ones went", x.waiting(0, 0), 2);
        due(12, "settle(201)", x.settle(201), NONE);
        due(12, "waiting", x.about(1), 3);
        due(12, "settle(3)", x.settle(3), 3);
        due(12, "settle(1)", x.settle(1), 0);
        due(12, "the record is there", x.record(1, 1), 1);
        x.put(0, 0);
        x.crash();
        due(12, "settle(5) when OFF", x.settle(5), 0);
        due(12, "settle(-1) when OFF", x.settle(-1), NONE);
    }

    private static void crash() {
        WaitingWrites x = new WaitingWrites();
        store(x, 0, 30);
        x.flush();
        x.settle(4);
        due(13, "crash()", x.crash(), 1);
        due(13, "crash() again", x.crash(), NONE);
        due(13, "poll(1)", x.poll(1), 2);
        due(13, "the disk stays", x.disk(0, 3, 1), 2);
        due(13, "recover()", x.recover(), 0);
        due(13, "crash()", x.crash(), 0);
        x.recover();
        due(13, "the object is made where it was", store(x, 0, 30), 2);
        due(13, "write", x.waiting(0, 0), 5);
        due(13, "its place", x.waiting(0, 1), 0);
        x.flush();
        due(13, "the record's number is taken again", x.about(6), 1);
        due(13, "it waits for its table alone", x.waiting(4, 2), 1);
        x.settle(200);
        store(x, 1, 30);
        due(13, "crash()", x.crash(), 3);
        due(13, "poll(2)", x.poll(2), 1);
        due(13, "poll(3)", x.poll(3), 2);
    }

    private static void recover() {
        WaitingWrites x = new WaitingWrites();
        due(14, "recover()", x.recover(), NONE);
        for (int key = 0; key < 8; key++) {
            x.put(key, 0);
        }
        x.flush();
        x.delete(3);
        x.flush();
        x.settle(200);
        x.put(40, 0);
        x.crash();
        due(14, "recover()", x.recover(), 7);
        dueAbout(14, x, 10, 0, 0, 7, NONE, 4, 2, 9, 2, 0, 10, 0);
        due(14, "recover() again", x.recover(), NONE);
        due(14, "pointer", x.extent(0, 0), 12);
        due(14, "get(3)", x.get(3), NONE);
        due(14, "get(4)", x.get(4), 0);
        due(14, "READ", x.about(5), 5);
        due(14, "the extent is not open: another is opened", x.put(40, 0), 11);
        due(14, "open", x.about(4), 1);
        due(14, "reclaim(0)", x.reclaim(0), 7);
        due(14, "READ: six more, the block of key 4 was in the cache still", x.about(5), 11);
        x.crash();
        due(14, "recover()", x.recover(), 7);
        due(14, "the record that emptied it is lost", x.extent(0, 0), 12);
    }

    private static void about() {
        WaitingWrites x = new WaitingWrites();
        store(x, 1, 40);
        store(x, 2, 0);
        x.flush();
        x.delete(1);
        x.settle(2);
        x.get(1);
        x.get(2);
        dueAbout(15, x, 3, 4, 2, 7, 0, 0, 1, 0, 1, 1, 3, 0);
        x.settle(200);
        x.get(2);
        dueAbout(15, x, 3, 0, 0, 7, 0, 1, 1, 2, 1, 1, 3, 0);
        for (int what : new int[] {-1, 12, LOW, HIGH}) {
            due(15, "about(" + what + ")", x.about(what), NONE);
        }
        x.put(3, 0);
        x.crash();
        dueAbout(15, x, 4, 0, 0, 0, NONE, 1, 0, 2, 0, 0, 0, 1);
        due(15, "about(12) when OFF", x.about(12), NONE);
        due(15, "about(-1) when OFF", x.about(-1), NONE);
        x.recover();
        dueAbout(15, x, 4, 0, 0, 7, NONE, 2, 1, 2, 1, 0, 3, 0);
    }

    private static void waiting() {
        WaitingWrites x = new WaitingWrites();
        due(16, "waiting(0, 0)", x.waiting(0, 0), NONE);
        store(x, 1, 20);
        x.flush();
        x.put(2, 0);
        int[][] want = {{0, 0, 0}, {1, 1, 0}, {2, 2, 2}, {3, 129, 1}, {4, 3, 0}};
        for (int k = 0; k < want.length; k++) {
            for (int what = 0; what < 3; what++) {
                due(16, "waiting(" + k + ", " + what + ")", x.waiting(k, what), want[k][what]);
            }
        }
        for (int k : new int[] {-1, 5, 120, LOW, HIGH}) {
            due(16, "waiting(" + k + ", 0)", x.waiting(k, 0), NONE);
        }
        for (int what : new int[] {-1, 3, LOW, HIGH}) {
            due(16, "waiting(0, " + what + ")", x.waiting(0, what), NONE);
        }
        x.issue(1);
        due(16, "the table waits for one less", x.waiting(1, 2), 1);
        due(16, "its number", x.waiting(1, 0), 2);
        x.issue(0);
        due(16, "the table is READY", x.waiting(0, 2), 0);
        x.issue(1);
        due(16, "the record waits still", x.waiting(1, 2), 1);
        x.crash();
        due(16, "waiting(0, 0) when OFF", x.waiting(0, 0), NONE);
    }

    private static void extent() {
        WaitingWrites x = new WaitingWrites();
        store(x, 0, 100);
        store(x, 1, 100);
        store(x, 2, 9);
        due(17, "extent(0, 0)", x.extent(0, 0), 16);
        due(17, "extent(0, 1)", x.extent(0, 1), 16);
        store(x, 1, 0);
        due(17, "extent(0, 1)", x.extent(0, 1), 9);
        due(17, "extent(1, 0)", x.extent(1, 0), 1);
        due(17, "extent(1, 1)", x.extent(1, 1), 1);
        x.flush();
        due(17, "the table lives", x.extent(1, 1), 3);
        x.settle(200);
        due(17, "extent(0, 1)", x.extent(0, 1), 9);
        due(17, "no READ", x.about(5), 0);
        x.delete(0);
        due(17, "extent(0, 1)", x.extent(0, 1), 2);
        due(17, "extent(7, 0)", x.extent(7, 0), 0);
        due(17, "extent(7, 1)", x.extent(7, 1), 0);
        for (int e : new int[] {-1, 8, LOW, HIGH}) {
            due(17, "extent(" + e + ", 0)", x.extent(e, 0), NONE);
        }
        for (int what : new int[] {-1, 2, LOW, HIGH}) {
            due(17, "extent(0, " + what + ")", x.extent(0, what), NONE);
        }
        x.crash();
        due(17, "extent(0, 0) when OFF", x.extent(0, 0), NONE);
        due(17, "extent(0, 1) when OFF", x.extent(0, 1), NONE);
        x.recover();
        due(17, "extent(0, 1)", x.extent(0, 1), 9);
        due(17, "extent(1, 0)", x.extent(1, 0), 3);
    }

    private static void disk() {
        WaitingWrites x = new WaitingWrites();
        for (int n = 0; n < 3; n++) {
            store(x, n, 100);
        }
        due(18, "what waits is not there", x.disk(1, 0, 0), 0);
        x.settle(200);
        dueBytes(18, x, 1, 0, 165, 1, 2, 100, 0, 2, 1, 2, 3, 4, 5, 6, 7, 8, 9, 10);
        due(18, "disk(1, 6, 11)", x.disk(1, 6, 11), 2);
        due(18, "disk(1, 6, 12)", x.disk(1, 6, 12), 0);
        due(18, "disk(7, 15, 15)", x.disk(7, 15, 15), 0);
        int[][] wrongs = {{-1, 0, 0}, {8, 0, 0}, {0, -1, 0}, {0, 16, 0}, {0, 0, -1}, {0, 0, 16},
            {LOW, 0, 0}, {HIGH, 0, 0}, {0, LOW, 0}, {0, HIGH, 0}, {0, 0, LOW}, {0, 0, HIGH}};
        for (int[] w : wrongs) {
            due(18, "disk(" + w[0] + ", " + w[1] + ", " + w[2] + ")", x.disk(w[0], w[1], w[2]), NONE);
        }
        x.crash();
        due(18, "disk(1, 0, 3) when OFF", x.disk(1, 0, 3), 100);
    }

    private static void record() {
        WaitingWrites x = new WaitingWrites();
        for (int n = 0; n < 4; n++) {
            store(x, n, 100);
            x.flush();
            if (n < 2) {
                x.settle(200);
            }
        }
        due(19, "record(0, 0)", x.record(0, 0), 2);
        x.settle(200);
        dueRecord(19, x, 0, 4, 4, 8, 1, 16, 15, 2, 0, 0, 0, 0, 0, 2, 0, NONE, NONE, NONE, NONE, NONE);
        dueRecord(19, x, 1, 3, 3, 6, 3, 16, 8, 0, 0, 0, 0, 0, 0, 1, 7, 0, 15, 0, 7, NONE);
        for (int what : new int[] {-1, 18, LOW, HIGH}) {
            due(19, "record(1, " + what + ")", x.record(1, what), NONE);
        }
        for (int slot : new int[] {-1, 2, LOW, HIGH}) {
            due(19, "record(" + slot + ", 0)", x.record(slot, 0), NONE);
        }
        x.crash();
        due(19, "record(1, 0) when OFF", x.record(1, 0), 3);
    }
}
