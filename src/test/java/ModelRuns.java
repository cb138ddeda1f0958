import java.util.ArrayList;
import java.util.Arrays;
import java.util.HashSet;
import java.util.LinkedHashMap;
import java.util.List;
import java.util.Map;
import java.util.Random;
import java.util.Set;
import java.util.TreeMap;

/**
 * Random runs of 512 calls, each call answered by WaitingWrites and by a second telling of the
 * document that is built another way: it does first and takes back what was refused.
 */
public final class ModelRuns {
    private static final int RUNS = 1500;
    private static final int CALLS = 512;

    private static int wrong = 0;

    public static void main(String[] args) {
        Map<String, Integer> seen = new TreeMap<>();
        for (int seed = 0; seed < RUNS && wrong < 20; seed++) {
            run(seed, seen);
        }
        for (String needed : List.of("put -2", "put -3", "put -1", "flush -2", "flush -3", "flush 0",
                "reclaim -2", "reclaim -3", "reclaim -1", "reclaim 0", "poll 0", "poll 1", "poll 2",
                "poll -1", "delete -1", "get -1", "feed -1", "crash -1", "recover -1", "settle -1")) {
            if (!seen.containsKey(needed)) {
                wrong++;
                System.out.println("no run came to: " + needed);
            }
        }
        System.out.println(wrong == 0 ? "all answers are as the model's" : wrong + " are wrong");
        if (wrong != 0) {
            System.exit(1);
        }
    }

    /** Each run leans to some kinds of calls, so that crowded, full and broken states come up. */
    private static void run(int seed, Map<String, Integer> seen) {
        Random random = new Random(seed);
        WaitingWrites real = new WaitingWrites();
        Model model = new Model();
        int[] weights = new int[18];
        int[] usual = {14, 20, 4, 6, 2, 2, 6, 7, 3, 6, 4, 1, 3, 4, 4, 3, 2, 3};
        for (int w = 0; w < weights.length; w++) {
            weights[w] = usual[w] * (1 + random.nextInt(4));
        }
        if (random.nextInt(3) == 0) {
            weights[10] = random.nextInt(2);
            weights[9] = random.nextInt(3);
        }
        if (random.nextInt(3) == 0) {
            weights[11] = 0;
        }
        int keys = random.nextInt(3) == 0 ? 48 : 2 + random.nextInt(14);
        int most = random.nextInt(3) == 0 ? 100 : 1 + random.nextInt(40);
        int settled = 1 + random.nextInt(random.nextBoolean() ? 20 : 200);
        for (int c = 0; c < CALLS; c++) {
            int kind = choose(weights, random);
            if (kind == 1 && model.tapeSize() == 0 && random.nextInt(8) != 0) {
                kind = 0;
            }
            int[] a = arguments(kind, random, keys, most, settled, model);
            long got = call(real, kind, a);
            long due = model.call(kind, a);
            String told = Model.NAMES[kind] + Arrays.toString(a);
            seen.merge(Model.NAMES[kind] + " " + due, 1, Integer::sum);
            if (got != due) {
                wrong++;
                System.out.println("seed " + seed + " call " + c + ": " + told + " answered " + got
                        + ", due is " + due);
                return;
            }
        }
    }

    private static int choose(int[] weights, Random random) {
        int sum = 0;
        for (int w : weights) {
            sum += w;
        }
        int at = random.nextInt(sum);
        int kind = 0;
        while (at >= weights[kind]) {
            at -= weights[kind];
            kind++;
        }
        return kind;
    }

    private static int near(Random random, int bound) {
        int odd = random.nextInt(40);
        if (odd == 0) {
            return random.nextInt();
        }
        return odd == 1 ? bound : odd == 2 ? -1 : random.nextInt(bound);
    }

    private static int[] arguments(int kind, Random random, int keys, int most, int settled,
            Model model) {
        switch (kind) {
            case 0:
                return new int[] {random.nextInt(), random.nextInt(), random.nextInt(),
                    random.nextInt(), random.nextInt()};
            case 1:
                int n = random.nextInt(12) == 0 ? near(random, 101)
                        : random.nextInt(Math.min(Math.min(model.tapeSize(), most), 100) + 1);
                return new int[] {random.nextInt(30) == 0 ? near(random, 48) : random.nextInt(keys), n};
            case 2:
            case 3:
                return new int[] {random.nextInt(30) == 0 ? near(random, 48) : random.nextInt(keys)};
            case 4:
                return new int[] {near(random, 100)};
            case 5:
                return new int[] {near(random, 48)};
            case 6:
            case 11:
            case 12:
                return new int[0];
            case 7:
                return new int[] {near(random, 8)};
            case 8:
                return new int[] {near(random, model.mutations + 2)};
            case 9:
                return new int[] {near(random, random.nextBoolean() ? 4 : 60)};
            case 10:
                return new int[] {near(random, random.nextInt(6) == 0 ? 201 : settled)};
            case 13:
                return new int[] {near(random, 12)};
            case 14:
                int count = model.waits.size();
                int k = random.nextInt(3) == 0 ? near(random, 121)
                        : count == 0 ? 0 : count - 1 - random.nextInt(Math.min(count, 12));
                return new int[] {k, near(random, 3)};
            case 15:
                return new int[] {near(random, 8), near(random, 2)};
            case 16:
                return new int[] {near(random, 8), near(random, 16), near(random, 16)};
            default:
                return new int[] {near(random, 2), near(random, 18)};
        }
    }

    private static long call(WaitingWrites x, int kind, int[] a) {
        switch (kind) {
            case 0: return x.feed(a[0], a[1], a[2], a[3], a[4]);
            case 1: return x.put(a[0], a[1]);
            case 2: return x.delete(a[0]);
            case 3: return x.get(a[0]);
            case 4: return x.octet(a[0]);
            case 5: return x.list(a[0]);
            case 6: return x.flush();
            case 7: return x.reclaim(a[0]);
            case 8: return x.poll(a[0]);
            case 9: return x.issue(a[0]);
            case 10: return x.settle(a[0]);
            case 11: return x.crash();
            case 12: return x.recover();
            case 13: return x.about(a[0]);
            case 14: return x.waiting(a[0], a[1]);
            case 15: return x.extent(a[0], a[1]);
            case 16: return x.disk(a[0], a[1], a[2]);
            default: return x.record(a[0], a[1]);
        }
    }

    /** Why a call was taken back: its answer. */
    private static final class Refused extends Exception {
        private static final long serialVersionUID = 1;
        final int answer;

        Refused(int answer) {
            super(null, null, false, false);
            this.answer = answer;
        }
    }

    private static final class Spot {
        final int extent;
        final int block;

        Spot(int extent, int block) {
            this.extent = extent;
            this.block = block;
        }
    }

    private static final class Note {
        int number;
        int upto;
        int stamps;
        int[] pointers = new int[8];
        List<Spot> tables = new ArrayList<>();
    }

    private static final class Pending {
        int number;
        Spot spot;
        int[] bytes;
        Note note;
        Set<Pending> needs = new HashSet<>();
    }

    /** A table in memory; a null spot is GONE. */
    private static final class Table {
        Spot spot;
        TreeMap<Integer, Spot> entries = new TreeMap<>();
    }

    private static final class Model {
        static final String[] NAMES = {"feed", "put", "delete", "get", "octet", "list", "flush",
            "reclaim", "poll", "issue", "settle", "crash", "recover", "about", "waiting", "extent",
            "disk", "record"};

        final int[][][] disk = new int[8][16][16];
        final Note[] slots = {new Note(), null};
        final LinkedHashMap<Integer, Boolean> cache = new LinkedHashMap<>(16, 0.75f, true);
        final Set<Integer> lost = new HashSet<>();
        List<Pending> waits = new ArrayList<>();
        List<Integer> tape = new ArrayList<>();
        List<Integer> output = new ArrayList<>();
        int mutations;
        int writes;
        int reads;
        boolean off;
        int[] pointers = new int[8];
        int open = -1;
        Note latest = slots[0];
        Pending latestWrite;
        Pending[] emptied = new Pending[8];
        int stamps;
        TreeMap<Integer, Spot> changes = new TreeMap<>();
        List<Table> tables = new ArrayList<>();

        int tapeSize() {
            return tape.size();
        }

        int call(int kind, int[] a) {
            switch (kind) {
                case 0: return feed(a);
                case 1: return put(a[0], a[1]);
                case 2: return delete(a[0]);
                case 3: return get(a[0]);
                case 4: return a[0] >= 0 && a[0] < output.size() ? output.get(a[0]) : -1;
                case 5: return off || a[0] < 0 || a[0] >= places().size() ? -1
                        : new ArrayList<>(places().keySet()).get(a[0]);
                case 6: return flush();
                case 7: return reclaim(a[0]);
                case 8: return a[0] < 1 || a[0] > mutations ? -1 : lost.contains(a[0]) ? 2
                        : newest().upto >= a[0] ? 1 : 0;
                case 9: return issue(a[0]);
                case 10: return settle(a[0]);
                case 11: return crash();
                case 12: return recover();
                case 13: return about(a[0]);
                case 14: return waiting(a[0], a[1]);
                case 15: return extent(a[0], a[1]);
                case 16: return inside(a[0], 8) && inside(a[1], 16) && inside(a[2], 16)
                        ? disk[a[0]][a[1]][a[2]] : -1;
                default: return record(a[0], a[1]);
            }
        }

        static boolean inside(int i, int bound) {
            return i >= 0 && i < bound;
        }

        Note newest() {
            return slots[1] != null && slots[1].number > slots[0].number ? slots[1] : slots[0];
        }

        TreeMap<Integer, Spot> places() {
            TreeMap<Integer, Spot> all = new TreeMap<>();
            for (int t = tables.size() - 1; t >= 0; t--) {
                all.putAll(tables.get(t).entries);
            }
            all.putAll(changes);
            all.values().removeIf(s -> s == null);
            return all;
        }

        int feed(int[] a) {
            if (tape.size() > 180) {
                return -1;
            }
            for (int number : a) {
                for (int shift = 24; shift >= 0; shift -= 8) {
                    tape.add((number >> shift) & 0xff);
                }
            }
            return tape.size();
        }

        int put(int key, int n) {
            if (off || !inside(key, 48) || !inside(n, 101) || n > tape.size()) {
                return -1;
            }
            List<Integer> bytes = new ArrayList<>(tape.subList(0, n));
            tape.clear();
            Saved saved = new Saved();
            try {
                changes.put(key, make(1, key, bytes, 3, -1, null));
                limit();
            } catch (Refused refused) {
                saved.restore();
                return refused.answer;
            }
            mutations++;
            return mutations;
        }

        int delete(int key) {
            if (off || !places().containsKey(key)) {
                return -1;
            }
            changes.put(key, null);
            mutations++;
            return mutations;
        }

        int get(int key) {
            Spot spot = off ? null : places().get(key);
            if (spot == null) {
                return -1;
            }
            use(spot);
            output = content(spot);
            return output.size();
        }

        int flush() {
            if (off) {
                return -1;
            }
            if (changes.isEmpty()) {
                return 0;
            }
            Saved saved = new Saved();
            try {
                Set<Pending> own = table(tables.size() == 3, -1);
                note(own);
                limit();
            } catch (Refused refused) {
                saved.restore();
                return refused.answer;
            }
            return 1;
        }

        int reclaim(int e) {
            if (off || !inside(e, 8) || e == open || pointers[e] == 0) {
                return -1;
            }
            TreeMap<Integer, Integer> live = new TreeMap<>();
            for (Map.Entry<Integer, Spot> entry : places().entrySet()) {
                if (entry.getValue().extent == e) {
                    live.put(entry.getValue().block, entry.getKey());
                }
            }
            for (int block : live.keySet()) {
                use(new Spot(e, block));
            }
            Saved saved = new Saved();
            try {
                for (Map.Entry<Integer, Integer> entry : live.entrySet()) {
                    List<Integer> bytes = content(new Spot(e, entry.getKey()));
                    changes.put(entry.getValue(), make(1, entry.getValue(), bytes, 1, e, null));
                }
                boolean tableHere = false;
                for (Table table : tables) {
                    tableHere |= table.spot.extent == e;
                }
                Set<Pending> needs = new HashSet<>();
                if (tableHere || !changes.isEmpty()) {
                    needs.addAll(table(true, e));
                }
                for (Pending pending : waits) {
                    if (pending.note == null && pending.spot.extent == e) {
                        needs.add(pending);
                    }
                }
                pointers[e] = 0;
                note(needs);
                emptied[e] = latestWrite;
                limit();
            } catch (Refused refused) {
                saved.restore();
                return refused.answer;
            }
            return live.size();
        }

        void limit() throws Refused {
            if (waits.size() > 120) {
                throw new Refused(-3);
            }
        }

        Spot make(int kind, int key, List<Integer> bytes, int least, int not, Set<Pending> own)
                throws Refused {
            List<Integer> all = new ArrayList<>(List.of(165, kind, key, bytes.size(),
                    stamps % 65536 / 256, stamps % 256));
            all.addAll(bytes);
            all.add(stamps % 65536 / 256);
            all.add(stamps % 256);
            while (all.size() % 16 != 0) {
                all.add(0);
            }
            int blocks = all.size() / 16;
            if (open < 0 || pointers[open] + blocks > 16) {
                List<Integer> empty = empties();
                if (empty.size() < least || empty.contains(not)) {
                    throw new Refused(-2);
                }
                open = empty.get(0);
            }
            Spot spot = new Spot(open, pointers[open]);
            pointers[open] += blocks;
            stamps++;
            for (int b = 0; b < blocks; b++) {
                Pending pending = new Pending();
                pending.number = writes++;
                pending.spot = new Spot(spot.extent, spot.block + b);
                pending.bytes = new int[16];
                for (int i = 0; i < 16; i++) {
                    pending.bytes[i] = all.get(16 * b + i);
                }
                if (waits.contains(emptied[spot.extent])) {
                    pending.needs.add(emptied[spot.extent]);
                }
                waits.add(pending);
                if (own != null) {
                    own.add(pending);
                }
            }
            return spot;
        }

        List<Integer> empties() {
            List<Integer> empty = new ArrayList<>();
            for (int e = 0; e < 8; e++) {
                if (pointers[e] == 0 && e != open) {
                    empty.add(e);
                }
            }
            return empty;
        }

        Set<Pending> table(boolean merged, int not) throws Refused {
            Table table = new Table();
            table.entries = merged ? places() : new TreeMap<>(changes);
            List<Integer> bytes = new ArrayList<>();
            bytes.add(table.entries.size());
            Set<Pending> needs = new HashSet<>();
            for (Map.Entry<Integer, Spot> entry : table.entries.entrySet()) {
                Spot spot = entry.getValue();
                bytes.add(entry.getKey());
                bytes.add(spot == null ? 255 : spot.extent);
                bytes.add(spot == null ? 0 : spot.block);
                for (Pending pending : waits) {
                    if (spot != null && pending.note == null && pending.spot.extent == spot.extent
                            && inside(pending.spot.block - spot.block, blocks(spot))) {
                        needs.add(pending);
                    }
                }
            }
            Set<Pending> own = new HashSet<>();
            table.spot = make(2, 0, bytes, 1, not, own);
            for (Pending pending : own) {
                pending.needs.addAll(needs);
            }
            if (merged) {
                tables.clear();
            }
            tables.add(0, table);
            changes.clear();
            return own;
        }

        void note(Set<Pending> needs) {
            Note note = new Note();
            note.number = latest.number + 1;
            note.upto = mutations;
            note.stamps = stamps;
            note.pointers = pointers.clone();
            for (Table table : tables) {
                note.tables.add(table.spot);
            }
            Pending pending = new Pending();
            pending.number = writes++;
            pending.note = note;
            pending.needs.addAll(needs);
            if (waits.contains(latestWrite)) {
                pending.needs.add(latestWrite);
            }
            waits.add(pending);
            latest = note;
            latestWrite = pending;
        }

        Pending over(int extent, int block) {
            Pending found = null;
            for (Pending pending : waits) {
                if (pending.note == null && pending.spot.extent == extent
                        && pending.spot.block == block) {
                    found = pending;
                }
            }
            return found;
        }

        int[] look(int extent, int block) {
            Pending pending = over(extent, block);
            return pending == null ? disk[extent][block] : pending.bytes;
        }

        int blocks(Spot spot) {
            return (look(spot.extent, spot.block)[3] + 8 + 15) / 16;
        }

        List<Integer> content(Spot spot) {
            List<Integer> all = new ArrayList<>();
            for (int b = 0; b < blocks(spot); b++) {
                for (int value : look(spot.extent, spot.block + b)) {
                    all.add(value);
                }
            }
            return new ArrayList<>(all.subList(6, 6 + all.get(3)));
        }

        void use(Spot spot) {
            for (int b = 0; b < blocks(spot); b++) {
                if (over(spot.extent, spot.block + b) == null) {
                    int name = 100 * spot.extent + spot.block + b;
                    if (cache.get(name) == null) {
                        reads++;
                        cache.put(name, true);
                        if (cache.size() > 6) {
                            cache.remove(cache.keySet().iterator().next());
                        }
                    }
                }
            }
        }

        List<Pending> ready() {
            List<Pending> ready = new ArrayList<>();
            for (Pending pending : waits) {
                if (left(pending) == 0) {
                    ready.add(pending);
                }
            }
            return ready;
        }

        int left(Pending pending) {
            int left = 0;
            for (Pending needed : pending.needs) {
                left += waits.contains(needed) ? 1 : 0;
            }
            return left;
        }

        int issue(int k) {
            List<Pending> ready = ready();
            if (!inside(k, ready.size())) {
                return -1;
            }
            Pending pending = ready.get(k);
            waits.remove(pending);
            if (pending.note != null) {
                slots[pending.note.number % 2] = pending.note;
            } else {
                disk[pending.spot.extent][pending.spot.block] = pending.bytes.clone();
            }
            return pending.number;
        }

        int settle(int n) {
            if (!inside(n, 201)) {
                return -1;
            }
            int done = 0;
            while (done < n && !waits.isEmpty()) {
                issue(0);
                done++;
            }
            return done;
        }

        int crash() {
            if (off) {
                return -1;
            }
            int count = waits.size();
            waits.clear();
            cache.clear();
            changes.clear();
            tables.clear();
            for (int handle = newest().upto + 1; handle <= mutations; handle++) {
                lost.add(handle);
            }
            off = true;
            return count;
        }

        int recover() {
            if (!off) {
                return -1;
            }
            off = false;
            latest = newest();
            latestWrite = null;
            emptied = new Pending[8];
            pointers = latest.pointers.clone();
            stamps = latest.stamps;
            open = -1;
            for (Spot spot : latest.tables) {
                use(spot);
                Table table = new Table();
                table.spot = spot;
                List<Integer> bytes = content(spot);
                for (int n = 0; n < bytes.get(0); n++) {
                    int extent = bytes.get(3 * n + 2);
                    table.entries.put(bytes.get(3 * n + 1),
                            extent == 255 ? null : new Spot(extent, bytes.get(3 * n + 3)));
                }
                tables.add(table);
            }
            return places().size();
        }

        int about(int what) {
            switch (what) {
                case 0: return mutations;
                case 1: return waits.size();
                case 2: return ready().size();
                case 3: return off ? 0 : empties().size();
                case 4: return off ? -1 : open;
                case 5: return reads;
                case 6: return off ? 0 : latest.number;
                case 7: return newest().upto;
                case 8: return tables.size();
                case 9: return changes.size();
                case 10: return off ? 0 : stamps;
                case 11: return off ? 1 : 0;
                default: return -1;
            }
        }

        int waiting(int k, int what) {
            if (!inside(k, waits.size()) || !inside(what, 3)) {
                return -1;
            }
            Pending pending = waits.get(k);
            if (what == 0) {
                return pending.number;
            }
            if (what == 2) {
                return left(pending);
            }
            return pending.note != null ? 128 + pending.note.number % 2
                    : 16 * pending.spot.extent + pending.spot.block;
        }

        int extent(int e, int what) {
            if (off || !inside(e, 8) || !inside(what, 2)) {
                return -1;
            }
            if (what == 0) {
                return pointers[e];
            }
            List<Spot> live = new ArrayList<>(places().values());
            for (Table table : tables) {
                live.add(table.spot);
            }
            int blocks = 0;
            for (Spot spot : live) {
                blocks += spot.extent == e ? blocks(spot) : 0;
            }
            return blocks;
        }

        int record(int slot, int what) {
            if (!inside(slot, 2) || slots[slot] == null || !inside(what, 18)) {
                return -1;
            }
            Note note = slots[slot];
            if (what >= 12) {
                int t = (what - 12) / 2;
                if (t >= note.tables.size()) {
                    return -1;
                }
                return what % 2 == 0 ? note.tables.get(t).extent : note.tables.get(t).block;
            }
            if (what >= 4) {
                return note.pointers[what - 4];
            }
            return new int[] {note.number, note.upto, note.stamps, note.tables.size()}[what];
        }

        /** What a refused call gives back. */
        private final class Saved {
            final List<Pending> waits = new ArrayList<>(Model.this.waits);
            final int writes = Model.this.writes;
            final int[] pointers = Model.this.pointers.clone();
            final int open = Model.this.open;
            final Note latest = Model.this.latest;
            final Pending latestWrite = Model.this.latestWrite;
            final Pending[] emptied = Model.this.emptied.clone();
            final int stamps = Model.this.stamps;
            final TreeMap<Integer, Spot> changes = new TreeMap<>(Model.this.changes);
            final List<Table> tables = new ArrayList<>(Model.this.tables);

            void restore() {
                Model.this.waits = waits;
                Model.this.writes = writes;
                Model.this.pointers = pointers;
                Model.this.open = open;
                Model.this.latest = latest;
                Model.this.latestWrite = latestWrite;
                Model.this.emptied = emptied;
                Model.this.stamps = stamps;
                Model.this.changes = changes;
                Model.this.tables = tables;
            }
        }
    }
}
