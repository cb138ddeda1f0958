import java.util.ArrayList;
import java.util.Arrays;
import java.util.HashMap;
import java.util.List;
import java.util.Map;
import java.util.Random;
import java.util.TreeMap;

/**
 * What the store is for: writes go to the disk in any order that is allowed, a crash comes at any
 * moment, and what the latest record on the disk tells is there, whole.
 */
public final class CrashRuns {
    private static final int RUNS = 3000;
    private static int wrong = 0;

    public static void main(String[] args) {
        int kept = 0;
        for (int seed = 0; seed < RUNS && wrong < 20; seed++) {
            kept += new CrashRuns(seed).run();
        }
        if (kept < RUNS) {
            wrong++;
            System.out.println("the runs kept too few objects to tell anything: " + kept);
        }
        System.out.println(wrong == 0 ? "all objects are whole" : wrong + " are wrong");
        if (wrong != 0) {
            System.exit(1);
        }
    }

    private final int seed;
    private final Random random;
    private final WaitingWrites x = new WaitingWrites();
    /** What there was behind each mutation. */
    private final Map<Integer, TreeMap<Integer, byte[]>> history = new HashMap<>();
    private final List<Integer> lost = new ArrayList<>();
    private TreeMap<Integer, byte[]> now = new TreeMap<>();
    private int mutations = 0;

    private CrashRuns(int seed) {
        this.seed = seed;
        random = new Random(seed);
        history.put(0, new TreeMap<>());
    }

    private int run() {
        int keys = 2 + random.nextInt(5);
        int most = random.nextInt(4) == 0 ? 40 : 12;
        int eager = 1 + random.nextInt(4);
        for (int step = 0; step < 130; step++) {
            switch (random.nextInt(10)) {
                case 0:
                case 1:
                case 2:
                    put(random.nextInt(keys), random.nextInt(most));
                    break;
                case 3:
                    delete(random.nextInt(keys));
                    break;
                case 4:
                    x.flush();
                    break;
                case 5:
                    x.reclaim(random.nextInt(8));
                    break;
                case 6:
                    if (random.nextInt(12) == 0) {
                        crash();
                    }
                    break;
                default:
                    for (int n = 0; n < eager; n++) {
                        x.issue(random.nextInt(3));
                    }
            }
        }
        dueAll();
        crash();
        return dueAll();
    }

    private void due(String what, int got, int want) {
        if (got != want) {
            wrong++;
            System.out.println("seed " + seed + ": " + what + " answered " + got + ", due is " + want);
        }
    }

    private void put(int key, int n) {
        byte[] bytes = new byte[40];
        random.nextBytes(bytes);
        for (int f = 0; f < n; f += 20) {
            x.feed(word(bytes, f), word(bytes, f + 4), word(bytes, f + 8), word(bytes, f + 12),
                    word(bytes, f + 16));
        }
        int handle = x.put(key, n);
        if (handle > 0) {
            now.put(key, Arrays.copyOf(bytes, n));
            mutated(handle);
        }
    }

    private static int word(byte[] bytes, int at) {
        return (bytes[at] & 255) << 24 | (bytes[at + 1] & 255) << 16 | (bytes[at + 2] & 255) << 8
                | (bytes[at + 3] & 255);
    }

    private void delete(int key) {
        int handle = x.delete(key);
        if (now.remove(key) == null) {
            due("delete(" + key + ")", handle, -1);
        } else {
            mutated(handle);
        }
    }

    private void mutated(int handle) {
        mutations++;
        due("the handle", handle, mutations);
        history.put(mutations, new TreeMap<>(now));
    }

    private void crash() {
        int upto = x.about(7);
        x.crash();
        for (int handle = upto + 1; handle <= mutations; handle++) {
            lost.add(handle);
        }
        now = new TreeMap<>(history.get(upto));
        due("recover()", x.recover(), now.size());
        // A record made from here on tells of this, whatever the lost mutations were.
        history.put(mutations, new TreeMap<>(now));
    }

    private int dueAll() {
        int k = 0;
        for (Map.Entry<Integer, byte[]> entry : now.entrySet()) {
            due("list(" + k + ")", x.list(k), entry.getKey());
            byte[] bytes = entry.getValue();
            due("get(" + entry.getKey() + ")", x.get(entry.getKey()), bytes.length);
            int step = bytes.length > 12 ? 3 : 1;
            for (int i = 0; i < bytes.length; i += step) {
                due("octet(" + i + ") of " + entry.getKey(), x.octet(i), bytes[i] & 255);
            }
            k++;
        }
        due("list(" + k + ")", x.list(k), -1);
        if (!lost.isEmpty()) {
            int handle = lost.get(random.nextInt(lost.size()));
            due("poll(" + handle + ")", x.poll(handle), 2);
        }
        return k;
    }
}
