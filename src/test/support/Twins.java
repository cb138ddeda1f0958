import java.util.ArrayList;
import java.util.List;
import java.util.function.Consumer;
import java.util.function.ToIntFunction;

/**
 * Two runs that differ in one call, asked the same questions. As a run has 512 calls, the questions
 * go to several pairs of twins.
 */
final class Twins {
    private static final int AT_ONCE = 250;

    private Twins() {
    }

    /** The call has its answer, and all is as it was. */
    static void dueUnchanged(Consumer<Run> before, int want, ToIntFunction<Run> call) {
        compare(before, want, call, questions(true));
        compareLater(before, call);
    }

    /** The call has its answer, and all is as it was but for the cache and the blocks READ. */
    static void dueUnchangedButReads(Consumer<Run> before, int want, ToIntFunction<Run> call) {
        compare(before, want, call, questions(false));
    }

    private static void compare(Consumer<Run> before, int want, ToIntFunction<Run> call,
            List<ToIntFunction<Run>> questions) {
        for (int from = 0; from < questions.size(); from += AT_ONCE) {
            Run without = new Run();
            before.accept(without);
            Run with = new Run();
            before.accept(with);
            with.due(want, call.applyAsInt(with));
            String told = with.lastCall();
            for (int q = from; q < questions.size() && q < from + AT_ONCE; q++) {
                int due = questions.get(q).applyAsInt(without);
                int got = questions.get(q).applyAsInt(with);
                if (got != due) {
                    Run.fail("behind " + told + ", " + with.lastCall() + " answered " + got
                            + ", ahead of it " + due);
                }
            }
        }
    }

    /** What can't be asked shows in what comes later: the tape, the output, the cache, numbers. */
    private static void compareLater(Consumer<Run> before, ToIntFunction<Run> call) {
        Run without = new Run();
        before.accept(without);
        Run with = new Run();
        before.accept(with);
        call.applyAsInt(with);
        String told = with.lastCall();
        List<Integer> due = later(without);
        List<Integer> got = later(with);
        for (int i = 0; i < due.size(); i++) {
            if (!due.get(i).equals(got.get(i))) {
                Run.fail("behind " + told + ", answer " + i + " of what came later was " + got.get(i)
                        + ", without it " + due.get(i));
            }
        }
    }

    private static List<Integer> later(Run r) {
        List<Integer> answers = new ArrayList<>();
        for (int key = 0; key < 48; key += 1) {
            answers.add(r.get(key));
            answers.add(r.about(5));
        }
        answers.add(r.feed(1, 2, 3, 4, 5));
        answers.add(r.put(47, 20));
        answers.add(r.put(47, 0));
        answers.add(r.flush());
        answers.add(r.settle(7));
        answers.add(r.reclaim(0));
        answers.add(r.about(1));
        answers.add(r.waiting(Math.max(r.about(1) - 1, 0), 0));
        answers.add(r.waiting(Math.max(r.about(1) - 1, 0), 2));
        answers.add(r.crash());
        answers.add(r.recover());
        answers.add(r.about(0));
        answers.add(r.about(5));
        answers.add(r.about(6));
        answers.add(r.about(10));
        answers.add(r.put(46, 0));
        answers.add(r.waiting(0, 0));
        answers.add(r.waiting(0, 1));
        answers.add(r.waiting(0, 2));
        return answers;
    }

    /** All that can be asked and changes nothing. */
    private static List<ToIntFunction<Run>> questions(boolean withReads) {
        List<ToIntFunction<Run>> all = new ArrayList<>();
        for (int i = 0; i <= 11; i++) {
            int what = i;
            if (what != 5 || withReads) {
                all.add(r -> r.about(what));
            }
        }
        for (int i = 0; i < 120 * 3; i++) {
            int n = i;
            all.add(r -> r.waiting(n / 3, n % 3));
        }
        for (int i = 0; i < 2 * 18; i++) {
            int n = i;
            all.add(r -> r.record(n / 18, n % 18));
        }
        for (int i = 0; i < 8 * 2; i++) {
            int n = i;
            all.add(r -> r.extent(n / 2, n % 2));
        }
        for (int i = 0; i < 48; i++) {
            int k = i;
            all.add(r -> r.list(k));
        }
        for (int i = 0; i <= 100; i++) {
            int n = i;
            all.add(r -> r.octet(n));
        }
        for (int i = 1; i <= 130; i++) {
            int handle = i;
            all.add(r -> r.poll(handle));
        }
        for (int i = 0; i < 8 * 16 * 16; i++) {
            int n = i;
            all.add(r -> r.disk(n / 256, n / 16 % 16, n % 16));
        }
        return all;
    }
}
