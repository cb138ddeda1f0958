import java.util.Arrays;

/**
 * A store of objects without a log: what is written waits in memory, and goes to the disk in any
 * order that keeps what each write waits for. After a crash the latest record on the disk tells
 * what is there.
 *
 * <p>A place on the disk is one number everywhere in here: 16 times the extent and the block.
 */
public final class WaitingWrites {
    /** There is none. */
    public static final int NONE = -1;

    private static final int NO_ROOM = -2;
    private static final int TOO_MANY = -3;

    private static final int EXTENTS = 8;
    private static final int BLOCKS = 16;
    private static final int ALL_BLOCKS = 128;
    private static final int SIZE = 16;
    private static final int SLOTS = 2;
    private static final int TABLES = 3;
    private static final int KEYS = 48;
    private static final int MOST_WAITING = 120;
    private static final int MOST_CACHED = 6;
    private static final int MOST_ON_TAPE = 200;
    private static final int MOST_IN_OBJECT = 100;
    private static final int MOST_IN_CHUNK = 255;
    private static final int MOST_SETTLED = 200;
    /** Each call makes one mutation at most, and an object is used for that many calls. */
    private static final int MOST_MUTATIONS = 512;

    private static final int MARK = 165;
    private static final int OBJECT = 1;
    private static final int TABLE = 2;
    private static final int LENGTH_AT = 3;
    private static final int HEAD = 6;
    private static final int HEAD_AND_TAIL = 8;
    private static final int GONE = -2;
    private static final int GONE_BYTE = 255;

    /** How many extents must be EMPTY for one to be opened. */
    private static final int FOR_PUT = 3;
    private static final int FOR_OTHERS = 1;

    private static final int PERSISTENT = 1;
    private static final int NOT_YET = 0;
    private static final int LOST = 2;

    private final Disk platter = new Disk();
    private final Queue queue = new Queue();
    private final Cache cache = new Cache();
    private final Layout layout = new Layout();
    /** Where a call's chunks are tried out, so that a refused call leaves the layout alone. */
    private final Layout trial = new Layout();
    private final Index index = new Index();
    private final Bytes tape = new Bytes(MOST_ON_TAPE);
    private final Bytes output = new Bytes(MOST_IN_CHUNK);
    /** What is in the chunk that is being made. */
    private final Bytes body = new Bytes(MOST_IN_CHUNK);
    /** The whole chunk that is being made. */
    private final Bytes chunk = new Bytes(MOST_IN_CHUNK + HEAD_AND_TAIL);
    private final boolean[] marked = new boolean[ALL_BLOCKS];
    private final int[] movers = new int[BLOCKS];
    /** Of each extent, the number of the write of the record that emptied it. */
    private final int[] emptiers = new int[EXTENTS];
    private final boolean[] lost = new boolean[MOST_MUTATIONS + 1];
    private Rec latest;
    private int latestWrite;
    private int stamps;
    private int mutations;
    private boolean off;

    public WaitingWrites() {
        restart();
    }

    // ---- the tape, objects and the output ----

    public int feed(int a, int b, int c, int d, int e) {
        if (tape.count + 20 > MOST_ON_TAPE) {
            return NONE;
        }
        tape.addInt(a);
        tape.addInt(b);
        tape.addInt(c);
        tape.addInt(d);
        tape.addInt(e);
        return tape.count;
    }

    public int put(int key, int n) {
        if (off || !isKey(key) || n < 0 || n > MOST_IN_OBJECT || n > tape.count
                || mutations >= MOST_MUTATIONS) {
            return NONE;
        }
        body.clear();
        body.addFrom(tape, n);
        tape.clear();
        int blocks = blocksFor(n);
        trial.copyFrom(layout);
        if (trial.take(blocks, FOR_PUT) == NONE) {
            return NO_ROOM;
        }
        if (!queue.hasRoomFor(blocks)) {
            return TOO_MANY;
        }
        index.changes.set(key, makeChunk(OBJECT, key, FOR_PUT));
        mutations++;
        return mutations;
    }

    public int delete(int key) {
        if (off || index.placeOf(key) == NONE || mutations >= MOST_MUTATIONS) {
            return NONE;
        }
        index.changes.set(key, GONE);
        mutations++;
        return mutations;
    }

    public int get(int key) {
        if (off) {
            return NONE;
        }
        int place = index.placeOf(key);
        if (place == NONE) {
            return NONE;
        }
        useChunk(place);
        fetchChunk(place, output);
        return output.count;
    }

    public int octet(int i) {
        return output.at(i);
    }

    public int list(int k) {
        if (off || k < 0) {
            return NONE;
        }
        int seen = 0;
        for (int key = 0; key < KEYS; key++) {
            if (index.placeOf(key) != NONE) {
                if (seen == k) {
                    return key;
                }
                seen++;
            }
        }
        return NONE;
    }

    // ---- tables, records, extents ----

    public int flush() {
        if (off) {
            return NONE;
        }
        if (index.changes.count == 0) {
            return 0;
        }
        boolean merged = index.count >= TABLES;
        int blocks = blocksFor(tableLength(merged ? index.keyCount() : index.changes.count));
        trial.copyFrom(layout);
        if (trial.take(blocks, FOR_OTHERS) == NONE) {
            return NO_ROOM;
        }
        if (!queue.hasRoomFor(blocks + 1)) {
            return TOO_MANY;
        }
        makeRecord(makeTable(merged), NONE);
        return 1;
    }

    public int reclaim(int extent) {
        if (off || !isExtent(extent) || extent == layout.open || layout.isEmpty(extent)) {
            return NONE;
        }
        int moved = findMovers(extent);
        // The document has the blocks used even when the call is then refused.
        for (int m = 0; m < moved && m < BLOCKS; m++) {
            useChunk(index.placeOf(movers[m]));
        }
        boolean withTable = moved > 0 || index.changes.count > 0 || index.hasTableIn(extent);
        int blocks = tryReclaim(moved, withTable);
        if (blocks == NONE) {
            return NO_ROOM;
        }
        if (!queue.hasRoomFor(blocks + 1)) {
            return TOO_MANY;
        }
        for (int m = 0; m < moved && m < BLOCKS; m++) {
            moveObject(movers[m]);
        }
        int tableBlocks = withTable ? makeTable(true) : 0;
        layout.empty(extent);
        makeRecord(tableBlocks, extent);
        emptiers[extent] = latestWrite;
        return moved;
    }

    public int poll(int handle) {
        if (handle < 1 || handle > mutations || handle >= lost.length) {
            return NONE;
        }
        if (lost[handle]) {
            return LOST;
        }
        return platter.latest().upto >= handle ? PERSISTENT : NOT_YET;
    }

    // ---- the disk's turn ----

    public int issue(int k) {
        return issueReady(k);
    }

    public int settle(int n) {
        if (n < 0 || n > MOST_SETTLED) {
            return NONE;
        }
        for (int done = 0; done < n; done++) {
            if (issueReady(0) == NONE) {
                return done;
            }
        }
        return n;
    }

    public int crash() {
        if (off) {
            return NONE;
        }
        int gone = queue.count;
        queue.clear();
        cache.clear();
        int upto = Math.max(platter.latest().upto, 0);
        for (int handle = upto + 1; handle <= mutations && handle < lost.length; handle++) {
            lost[handle] = true;
        }
        off = true;
        return gone;
    }

    public int recover() {
        if (!off) {
            return NONE;
        }
        restart();
        return index.keyCount();
    }

    // ---- looking in ----

    public int about(int what) {
        switch (what) {
            case 0:
                return mutations;
            case 5:
                return cache.reads;
            case 7:
                return platter.latest().upto;
            case 11:
                return off ? 1 : 0;
            default:
                return off ? aboutOff(what) : aboutMemory(what);
        }
    }

    public int waiting(int k, int what) {
        Write write = queue.at(k);
        if (write == null) {
            return NONE;
        }
        switch (what) {
            case 0:
                return write.number;
            case 1:
                return write.target;
            case 2:
                return write.waitsForHowMany();
            default:
                return NONE;
        }
    }

    public int extent(int e, int what) {
        if (off || !isExtent(e)) {
            return NONE;
        }
        switch (what) {
            case 0:
                return layout.pointers[e];
            case 1:
                return liveBlocks(e);
            default:
                return NONE;
        }
    }

    public int disk(int extent, int block, int i) {
        if (!isExtent(extent) || block < 0 || block >= BLOCKS) {
            return NONE;
        }
        return platter.at(extent * BLOCKS + block, i);
    }

    public int record(int slot, int what) {
        Rec rec = platter.inSlot(slot);
        return rec == null ? NONE : rec.tell(what);
    }

    // ---- what the calls above are made of ----

    private static boolean isKey(int key) {
        return key >= 0 && key < KEYS;
    }

    private static boolean isExtent(int extent) {
        return extent >= 0 && extent < EXTENTS;
    }

    private static int blocksFor(int length) {
        return (length + HEAD_AND_TAIL + SIZE - 1) / SIZE;
    }

    private static int tableLength(int entries) {
        return 1 + 3 * entries;
    }

    /** Memory as the latest record on the disk tells it. */
    private void restart() {
        latest = platter.latest();
        latestWrite = NONE;
        stamps = latest.stamps;
        layout.restore(latest);
        Arrays.fill(emptiers, NONE);
        index.clear();
        for (int t = 0; t < latest.tableCount(); t++) {
            int place = latest.tableAt(t);
            useChunk(place);
            fetchChunk(place, body);
            index.addOlder(body, place);
        }
        off = false;
    }

    /** The length that a chunk tells, from the write of its block that waits if there is one. */
    private int lengthAt(int place) {
        Write write = queue.latestOf(place);
        int length = write != null ? write.at(LENGTH_AT) : platter.at(place, LENGTH_AT);
        return Math.max(length, 0);
    }

    private int blocksAt(int place) {
        return blocksFor(lengthAt(place));
    }

    /** Uses the blocks of a chunk in order, for what the cache and the count of READS tell. */
    private void useChunk(int place) {
        int blocks = blocksAt(place);
        for (int block = place; block < place + blocks; block++) {
            if (queue.latestOf(block) == null) {
                cache.use(block);
            }
        }
    }

    /** What is in a chunk; the count of READS and the cache are useChunk's alone. */
    private void fetchChunk(int place, Bytes into) {
        into.clear();
        int end = HEAD + lengthAt(place);
        for (int b = 0; b * SIZE < end; b++) {
            Write write = queue.latestOf(place + b);
            for (int i = 0; i < SIZE; i++) {
                int at = b * SIZE + i;
                if (at >= HEAD && at < end) {
                    into.add(write != null ? write.at(i) : platter.at(place + b, i));
                }
            }
        }
    }

    private int issueReady(int k) {
        int position = queue.readyPosition(k);
        Write write = queue.at(position);
        if (write == null) {
            return NONE;
        }
        platter.land(write);
        queue.remove(position);
        return write.number;
    }

    /** Makes the chunk of what is in the body: its place. */
    private int makeChunk(int kind, int key, int least) {
        int place = layout.take(blocksFor(body.count), least);
        if (place == NONE) {
            return NONE;
        }
        spellChunk(kind, key);
        stamps++;
        Write emptier = queue.numbered(emptiers[place / BLOCKS]);
        for (int b = 0; b * SIZE < chunk.count; b++) {
            Write write = queue.make(place + b);
            if (write != null) {
                write.fill(chunk, b * SIZE);
                write.waitFor(emptier);
            }
        }
        return place;
    }

    private void spellChunk(int kind, int key) {
        chunk.clear();
        chunk.add(MARK);
        chunk.add(kind);
        chunk.add(key);
        chunk.add(body.count);
        chunk.addPair(stamps);
        chunk.addFrom(body, body.count);
        chunk.addPair(stamps);
    }

    /** Makes a table of all places or of the changes: how many blocks it has. */
    private int makeTable(boolean merged) {
        index.gather(merged);
        index.fresh.spell(body);
        int place = makeChunk(TABLE, 0, FOR_OTHERS);
        int own = blocksFor(body.count);
        tieToObjects(own);
        index.adopt(merged, place);
        return own;
    }

    /** The last writes, as many as told, wait for the blocks that the fresh table names. */
    private void tieToObjects(int own) {
        clearMarks();
        for (int key = 0; key < KEYS; key++) {
            markChunk(index.fresh.of(key));
        }
        int first = queue.count - own;
        for (int k = 0; k < first; k++) {
            Write write = queue.at(k);
            if (write != null && write.isOfBlock() && marked[write.target]) {
                queue.lastOnesWaitFor(own, write);
            }
        }
    }

    private void clearMarks() {
        for (int block = 0; block < ALL_BLOCKS; block++) {
            marked[block] = false;
        }
    }

    private void markChunk(int place) {
        if (place < 0) {
            return;
        }
        int end = Math.min(place + blocksAt(place), ALL_BLOCKS);
        for (int block = place; block < end; block++) {
            marked[block] = true;
        }
    }

    /** Makes a record of how all is now, with the last writes as the table made for it. */
    private void makeRecord(int tableBlocks, int emptied) {
        Rec rec = new Rec(latest.number + 1, mutations, stamps, layout.pointers.clone(),
                index.tablePlaces());
        int others = queue.count;
        Write write = queue.make(ALL_BLOCKS + rec.slot());
        if (write == null) {
            return;
        }
        write.rec = rec;
        write.waitFor(queue.numbered(latestWrite));
        for (int k = 0; k < others; k++) {
            Write other = queue.at(k);
            if (other != null && (k >= others - tableBlocks || other.isIn(emptied))) {
                write.waitFor(other);
            }
        }
        latest = rec;
        latestWrite = write.number;
    }

    /** The keys of the live objects of an extent, by their blocks: how many. */
    private int findMovers(int extent) {
        int found = 0;
        for (int b = 0; b < BLOCKS; b++) {
            int key = index.keyAt(extent * BLOCKS + b);
            if (key != NONE && found < movers.length) {
                movers[found] = key;
                found++;
            }
        }
        return found;
    }

    /** How many blocks the chunks of a RECLAIM have, or NONE when there is no room for one. */
    private int tryReclaim(int moved, boolean withTable) {
        trial.copyFrom(layout);
        int all = 0;
        for (int m = 0; m < moved && m < BLOCKS; m++) {
            int blocks = blocksAt(index.placeOf(movers[m]));
            if (trial.take(blocks, FOR_OTHERS) == NONE) {
                return NONE;
            }
            all += blocks;
        }
        if (withTable) {
            int blocks = blocksFor(tableLength(index.keyCount()));
            if (trial.take(blocks, FOR_OTHERS) == NONE) {
                return NONE;
            }
            all += blocks;
        }
        return all;
    }

    private void moveObject(int key) {
        fetchChunk(index.placeOf(key), body);
        index.changes.set(key, makeChunk(OBJECT, key, FOR_OTHERS));
    }

    private int liveBlocks(int extent) {
        clearMarks();
        for (int key = 0; key < KEYS; key++) {
            markChunk(index.placeOf(key));
        }
        for (int t = 0; t < index.count; t++) {
            markChunk(index.tablePlace(t));
        }
        int live = 0;
        for (int b = 0; b < BLOCKS; b++) {
            if (marked[extent * BLOCKS + b]) {
                live++;
            }
        }
        return live;
    }

    private int aboutMemory(int what) {
        switch (what) {
            case 1:
                return queue.count;
            case 2:
                return queue.readyCount();
            case 3:
                return layout.emptyCount();
            case 4:
                return layout.open;
            case 6:
                return latest.number;
            case 8:
                return index.count;
            case 9:
                return index.changes.count;
            case 10:
                return stamps;
            default:
                return NONE;
        }
    }

    private static int aboutOff(int what) {
        return what >= 1 && what <= 10 && what != 4 ? 0 : NONE;
    }

    /** A row of bytes that has room for so many. */
    private static final class Bytes {
        final int[] cells;
        int count;

        Bytes(int room) {
            cells = new int[Math.max(room, 0)];
        }

        int at(int i) {
            return i >= 0 && i < count ? cells[i] : NONE;
        }

        void clear() {
            count = 0;
        }

        void add(int value) {
            if (count < cells.length) {
                cells[count] = value & 255;
                count++;
            }
        }

        void addPair(int value) {
            add(value >>> 8);
            add(value);
        }

        void addInt(int value) {
            addPair(value >>> 16);
            addPair(value);
        }

        void addFrom(Bytes other, int n) {
            for (int i = 0; i < n && i < other.count; i++) {
                add(other.cells[i]);
            }
        }
    }

    /** A record as it was made; it never changes. */
    private static final class Rec {
        final int number;
        final int upto;
        final int stamps;
        private final int[] pointers;
        private final int[] tables;

        Rec(int number, int upto, int stamps, int[] pointers, int[] tables) {
            this.number = number;
            this.upto = upto;
            this.stamps = stamps;
            this.pointers = pointers;
            this.tables = tables;
        }

        int slot() {
            return number & 1;
        }

        int pointerOf(int e) {
            return e >= 0 && e < pointers.length ? pointers[e] : NONE;
        }

        int tableCount() {
            return tables.length;
        }

        int tableAt(int t) {
            return t >= 0 && t < tables.length ? tables[t] : NONE;
        }

        int tell(int what) {
            if (what >= 4 && what < 4 + EXTENTS) {
                return pointerOf(what - 4);
            }
            switch (what) {
                case 0:
                    return number;
                case 1:
                    return upto;
                case 2:
                    return stamps;
                case 3:
                    return tableCount();
                default:
                    return tellTable(what - 4 - EXTENTS);
            }
        }

        private int tellTable(int what) {
            if (what < 0 || what >= 2 * tableCount()) {
                return NONE;
            }
            int place = tableAt(what / 2);
            return what % 2 == 0 ? place / BLOCKS : place % BLOCKS;
        }
    }

    /** The blocks and the slots. */
    private static final class Disk {
        final int[] cells = new int[ALL_BLOCKS * SIZE];
        final Rec[] slots = new Rec[SLOTS];

        Disk() {
            slots[0] = new Rec(0, 0, 0, new int[EXTENTS], new int[0]);
        }

        int at(int block, int i) {
            if (block < 0 || block >= ALL_BLOCKS || i < 0 || i >= SIZE) {
                return NONE;
            }
            return cells[block * SIZE + i];
        }

        Rec inSlot(int slot) {
            return slot >= 0 && slot < SLOTS ? slots[slot] : null;
        }

        /** Never null: slot 0 has a record from the start on, and none is ever taken out. */
        Rec latest() {
            if (slots[1] == null || slots[0].number > slots[1].number) {
                return slots[0];
            }
            return slots[1];
        }

        void land(Write write) {
            if (write.rec != null) {
                slots[write.rec.slot()] = write.rec;
            } else if (write.isOfBlock()) {
                for (int i = 0; i < SIZE; i++) {
                    cells[write.target * SIZE + i] = write.at(i);
                }
            }
        }
    }

    /** A write that waits; of a record when it has one, else of a block. */
    private static final class Write {
        /** The bit by which others wait for this one; it is another write's once this landed. */
        final int seat;
        private final int[] bytes = new int[SIZE];
        int number;
        /** A block's place, or 128 and the slot of a record. */
        int target;
        Rec rec;
        private long lowSeats;
        private long highSeats;

        Write(int seat) {
            this.seat = seat;
        }

        void begin(int itsNumber, int itsTarget) {
            number = itsNumber;
            target = itsTarget;
            rec = null;
            lowSeats = 0;
            highSeats = 0;
        }

        int at(int i) {
            return i >= 0 && i < SIZE ? bytes[i] : NONE;
        }

        void fill(Bytes from, int start) {
            for (int i = 0; i < SIZE; i++) {
                // Behind the chunk's end there is NONE to be had, and the block wants 0.
                bytes[i] = Math.max(from.at(start + i), 0);
            }
        }

        boolean isOfBlock() {
            return target >= 0 && target < ALL_BLOCKS;
        }

        boolean isIn(int extent) {
            return isOfBlock() && target / BLOCKS == extent;
        }

        void waitFor(Write other) {
            if (other == null) {
                return;
            }
            if (other.seat < 64) {
                lowSeats |= 1L << other.seat;
            } else {
                highSeats |= 1L << (other.seat - 64);
            }
        }

        void waitNoMoreFor(Write other) {
            if (other.seat < 64) {
                lowSeats &= ~(1L << other.seat);
            } else {
                highSeats &= ~(1L << (other.seat - 64));
            }
        }

        int waitsForHowMany() {
            return Long.bitCount(lowSeats) + Long.bitCount(highSeats);
        }
    }

    /** The writes that wait, by their numbers; those behind the count are free to be made. */
    private static final class Queue {
        final Write[] row = new Write[MOST_WAITING];
        int count;
        int made;

        Queue() {
            for (int seat = 0; seat < MOST_WAITING; seat++) {
                row[seat] = new Write(seat);
            }
        }

        Write at(int k) {
            return k >= 0 && k < count ? row[k] : null;
        }

        boolean hasRoomFor(int more) {
            return count + more <= MOST_WAITING;
        }

        Write make(int target) {
            if (count >= MOST_WAITING) {
                return null;
            }
            Write write = row[count];
            write.begin(made, target);
            made++;
            count++;
            return write;
        }

        /** Null when that write does not wait any more. */
        Write numbered(int number) {
            for (int k = 0; k < count; k++) {
                if (row[k].number == number) {
                    return row[k];
                }
            }
            return null;
        }

        /** The latest write of a block that waits, or null. */
        Write latestOf(int block) {
            for (int k = count - 1; k >= 0; k--) {
                if (row[k].target == block) {
                    return row[k];
                }
            }
            return null;
        }

        void lastOnesWaitFor(int n, Write other) {
            for (int k = Math.max(count - n, 0); k < count; k++) {
                row[k].waitFor(other);
            }
        }

        int readyCount() {
            int ready = 0;
            for (int k = 0; k < count; k++) {
                if (row[k].waitsForHowMany() == 0) {
                    ready++;
                }
            }
            return ready;
        }

        int readyPosition(int wanted) {
            int ready = 0;
            for (int k = 0; k < count; k++) {
                if (row[k].waitsForHowMany() == 0) {
                    if (ready == wanted) {
                        return k;
                    }
                    ready++;
                }
            }
            return NONE;
        }

        void remove(int position) {
            if (position < 0 || position >= count) {
                return;
            }
            Write landed = row[position];
            count--;
            for (int k = position; k < count; k++) {
                row[k] = row[k + 1];
                row[k].waitNoMoreFor(landed);
            }
            // Only later writes wait for it, so those ahead of it need no look.
            row[count] = landed;
        }

        void clear() {
            count = 0;
        }
    }

    /** Which blocks are in the cache, the latest used first; their bytes are always the disk's. */
    private static final class Cache {
        private final int[] blocks = new int[MOST_CACHED];
        private int count;
        int reads;

        void clear() {
            count = 0;
        }

        void use(int block) {
            int position = 0;
            while (position < count && blocks[position] != block) {
                position++;
            }
            if (position == count) {
                reads++;
                if (count < MOST_CACHED) {
                    count++;
                } else {
                    position = MOST_CACHED - 1;
                }
            }
            for (int p = position; p > 0; p--) {
                blocks[p] = blocks[p - 1];
            }
            blocks[0] = block;
        }
    }

    /** How far each extent is in use, and which one is open. */
    private static final class Layout {
        final int[] pointers = new int[EXTENTS];
        int open = NONE;

        void copyFrom(Layout other) {
            for (int e = 0; e < EXTENTS; e++) {
                pointers[e] = other.pointers[e];
            }
            open = other.open;
        }

        void restore(Rec rec) {
            for (int e = 0; e < EXTENTS; e++) {
                pointers[e] = rec.pointerOf(e);
            }
            open = NONE;
        }

        boolean isEmpty(int e) {
            return isExtent(e) && pointers[e] == 0 && e != open;
        }

        int emptyCount() {
            int empty = 0;
            for (int e = 0; e < EXTENTS; e++) {
                if (isEmpty(e)) {
                    empty++;
                }
            }
            return empty;
        }

        void empty(int e) {
            if (isExtent(e)) {
                pointers[e] = 0;
            }
        }

        /** Takes blocks behind one another: the place of the first, or NONE without room. */
        int take(int blocks, int least) {
            if (blocks > BLOCKS) {
                return NONE;
            }
            if (!isExtent(open) || pointers[open] + blocks > BLOCKS) {
                if (emptyCount() < least) {
                    return NONE;
                }
                open = lowestEmpty();
            }
            if (!isExtent(open)) {
                return NONE;
            }
            int place = open * BLOCKS + pointers[open];
            pointers[open] += blocks;
            return place;
        }

        private int lowestEmpty() {
            for (int e = 0; e < EXTENTS; e++) {
                if (isEmpty(e)) {
                    return e;
                }
            }
            return NONE;
        }
    }

    /** Of each key: a place, GONE, or NONE when there is no entry of it. */
    private static final class Entries {
        private final int[] spots = new int[KEYS];
        int count;
        /** Where this lies when it is a table. */
        int place = NONE;

        Entries() {
            clear();
        }

        void clear() {
            Arrays.fill(spots, NONE);
            count = 0;
            place = NONE;
        }

        int of(int key) {
            return isKey(key) ? spots[key] : NONE;
        }

        void set(int key, int spot) {
            if (!isKey(key) || spot == NONE) {
                return;
            }
            if (spots[key] == NONE) {
                count++;
            }
            spots[key] = spot;
        }

        void spell(Bytes into) {
            into.clear();
            into.add(count);
            for (int key = 0; key < KEYS; key++) {
                int spot = spots[key];
                if (spot != NONE) {
                    into.add(key);
                    into.add(spot == GONE ? GONE_BYTE : spot / BLOCKS);
                    into.add(spot == GONE ? 0 : spot % BLOCKS);
                }
            }
        }

        void readFrom(Bytes from) {
            clear();
            int entries = Math.min(from.at(0), KEYS);
            for (int n = 0; n < entries; n++) {
                int extent = from.at(2 + 3 * n);
                int block = from.at(3 + 3 * n);
                if (extent == GONE_BYTE) {
                    set(from.at(1 + 3 * n), GONE);
                } else if (isExtent(extent) && block >= 0 && block < BLOCKS) {
                    set(from.at(1 + 3 * n), extent * BLOCKS + block);
                }
            }
        }
    }

    /** The changes and what is in the tables, the newest first. */
    private static final class Index {
        final Entries changes = new Entries();
        private final Entries[] tables = new Entries[TABLES];
        int count;
        /** The table that is being made; an old one's rows become the next fresh one's. */
        Entries fresh = new Entries();

        Index() {
            for (int t = 0; t < TABLES; t++) {
                tables[t] = new Entries();
            }
        }

        void clear() {
            changes.clear();
            count = 0;
        }

        int tablePlace(int t) {
            return t >= 0 && t < count && t < TABLES ? tables[t].place : NONE;
        }

        int[] tablePlaces() {
            int[] places = new int[Math.min(count, TABLES)];
            for (int t = 0; t < places.length; t++) {
                places[t] = tablePlace(t);
            }
            return places;
        }

        boolean hasTableIn(int extent) {
            for (int t = 0; t < count && t < TABLES; t++) {
                if (tables[t].place / BLOCKS == extent) {
                    return true;
                }
            }
            return false;
        }

        int placeOf(int key) {
            int spot = changes.of(key);
            for (int t = 0; t < count && t < TABLES && spot == NONE; t++) {
                spot = tables[t].of(key);
            }
            return spot == GONE ? NONE : spot;
        }

        int keyCount() {
            int keys = 0;
            for (int key = 0; key < KEYS; key++) {
                if (placeOf(key) != NONE) {
                    keys++;
                }
            }
            return keys;
        }

        int keyAt(int place) {
            for (int key = 0; key < KEYS; key++) {
                if (placeOf(key) == place) {
                    return key;
                }
            }
            return NONE;
        }

        void gather(boolean merged) {
            fresh.clear();
            for (int key = 0; key < KEYS; key++) {
                fresh.set(key, merged ? placeOf(key) : changes.of(key));
            }
        }

        /** The fresh table becomes the newest, or the only one; there are no changes then. */
        void adopt(boolean merged, int place) {
            if (merged || count >= TABLES) {
                count = 0;
            }
            Entries unused = tables[count];
            for (int t = count; t > 0; t--) {
                tables[t] = tables[t - 1];
            }
            tables[0] = fresh;
            tables[0].place = place;
            fresh = unused;
            count++;
            changes.clear();
        }

        /** A table that was read comes behind those that are there. */
        void addOlder(Bytes from, int place) {
            if (count < TABLES) {
                tables[count].readFrom(from);
                tables[count].place = place;
                count++;
            }
        }
    }
}
