import java.util.ArrayList;
import java.util.List;

/**
 * One object and the calls on it, each remembered with its answer. The document promises nothing
 * behind the 512th call, so a run that goes further is wrong in itself.
 */
final class Run {
    static final int NONE = -1;
    static final int NO_ROOM = -2;
    static final int TOO_MANY = -3;
    static final int LOW = Integer.MIN_VALUE;
    static final int HIGH = Integer.MAX_VALUE;
    private static final int MOST_CALLS = 512;

    private static int wrong = 0;
    private static String test = "";

    private final WaitingWrites x = new WaitingWrites();
    private final List<String> calls = new ArrayList<>();

    static void begin(String name) {
        test = name;
    }

    static int wrongs() {
        return wrong;
    }

    static void fail(String told) {
        wrong++;
        System.out.println(test + ": " + told);
    }

    /** The answer of the call just made, and the one that is due. */
    void due(int want, int got) {
        if (got != want) {
            fail(lastCall() + " answered " + got + ", due is " + want + " (call " + calls.size() + ")");
        }
    }

    String lastCall() {
        return calls.isEmpty() ? "no call" : calls.get(calls.size() - 1);
    }

    private int told(String call, int answer) {
        calls.add(call);
        if (calls.size() == MOST_CALLS + 1) {
            fail("the run has more calls than are promised");
        }
        return answer;
    }

    private static String spelled(String name, int... arguments) {
        StringBuilder text = new StringBuilder(name).append('(');
        for (int i = 0; i < arguments.length; i++) {
            text.append(i == 0 ? "" : ", ").append(arguments[i]);
        }
        return text.append(')').toString();
    }

    // ---- the face ----

    int feed(int a, int b, int c, int d, int e) {
        return told(spelled("feed", a, b, c, d, e), x.feed(a, b, c, d, e));
    }

    int put(int key, int n) {
        return told(spelled("put", key, n), x.put(key, n));
    }

    int delete(int key) {
        return told(spelled("delete", key), x.delete(key));
    }

    int get(int key) {
        return told(spelled("get", key), x.get(key));
    }

    int octet(int i) {
        return told(spelled("octet", i), x.octet(i));
    }

    int list(int k) {
        return told(spelled("list", k), x.list(k));
    }

    int flush() {
        return told(spelled("flush"), x.flush());
    }

    int reclaim(int extent) {
        return told(spelled("reclaim", extent), x.reclaim(extent));
    }

    int poll(int handle) {
        return told(spelled("poll", handle), x.poll(handle));
    }

    int issue(int k) {
        return told(spelled("issue", k), x.issue(k));
    }

    int settle(int n) {
        return told(spelled("settle", n), x.settle(n));
    }

    int crash() {
        return told(spelled("crash"), x.crash());
    }

    int recover() {
        return told(spelled("recover"), x.recover());
    }

    int about(int what) {
        return told(spelled("about", what), x.about(what));
    }

    int waiting(int k, int what) {
        return told(spelled("waiting", k, what), x.waiting(k, what));
    }

    int extent(int e, int what) {
        return told(spelled("extent", e, what), x.extent(e, what));
    }

    int disk(int extent, int block, int i) {
        return told(spelled("disk", extent, block, i), x.disk(extent, block, i));
    }

    int record(int slot, int what) {
        return told(spelled("record", slot, what), x.record(slot, what));
    }

    // ---- what tests do often ----

    /** The tape has n bytes more, or up to 19 above that: from, from + 1 and so on. */
    void feedBytes(int n, int from) {
        for (int fed = 0; fed < n; fed += 20) {
            int b = from + fed;
            feed(word(b), word(b + 4), word(b + 8), word(b + 12), word(b + 16));
        }
    }

    private static int word(int b) {
        return (b & 255) << 24 | (b + 1 & 255) << 16 | (b + 2 & 255) << 8 | (b + 3 & 255);
    }

    /** Puts n bytes: 1, 2, 3 and so on. */
    int store(int key, int n) {
        feedBytes(n, 1);
        return put(key, n);
    }

    /** Puts seven blocks. */
    int storeSeven(int key) {
        return store(key, 100);
    }

    /** Puts objects of one block at the key, so many. */
    void putOnes(int key, int times) {
        for (int n = 0; n < times; n++) {
            put(key, 0);
        }
    }

    /** Each time three writes and two blocks: of an object, of a table; a record. */
    void putAndFlush(int key, int times) {
        for (int n = 0; n < times; n++) {
            put(key, 0);
            flush();
        }
    }

    void dueOctets(int... wants) {
        for (int i = 0; i < wants.length; i++) {
            due(wants[i], octet(i));
        }
    }

    /** The bytes of a block, from its first on. */
    void dueBlock(int extent, int block, int... wants) {
        for (int i = 0; i < wants.length; i++) {
            due(wants[i], disk(extent, block, i));
        }
    }

    /** The bytes of a block, and 0 up to its end. */
    void dueWholeBlock(int extent, int block, int... wants) {
        for (int i = 0; i < 16; i++) {
            due(i < wants.length ? wants[i] : 0, disk(extent, block, i));
        }
    }

    /** What the writes that wait write, from the k-th on. */
    void dueTargets(int k, int... wants) {
        for (int i = 0; i < wants.length; i++) {
            due(wants[i], waiting(k + i, 1));
        }
    }

    /** For how many the writes wait, from the k-th on. */
    void dueWaits(int k, int... wants) {
        for (int i = 0; i < wants.length; i++) {
            due(wants[i], waiting(k + i, 2));
        }
    }

    void dueRecord(int slot, int... wants) {
        for (int what = 0; what < wants.length; what++) {
            due(wants[what], record(slot, what));
        }
    }

    void dueAbout(int... wants) {
        for (int what = 0; what < wants.length; what++) {
            due(wants[what], about(what));
        }
    }
}
