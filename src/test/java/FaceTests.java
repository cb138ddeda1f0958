import java.lang.reflect.Constructor;
import java.lang.reflect.Field;
import java.lang.reflect.Method;
import java.lang.reflect.Modifier;
import java.util.Arrays;
import java.util.Random;
import java.util.Set;
import java.util.TreeSet;

/** The public face is the document's and no more; no call throws, however long it goes on. */
public final class FaceTests {
    private static final Set<String> FACE = new TreeSet<>(Arrays.asList("feed 5", "put 2", "delete 1",
            "get 1", "octet 1", "list 1", "flush 0", "reclaim 1", "poll 1", "issue 1", "settle 1",
            "crash 0", "recover 0", "about 1", "waiting 2", "extent 2", "disk 3", "record 2"));
    private static int wrong = 0;

    public static void main(String[] args) {
        face();
        endurance();
        System.out.println(wrong == 0 ? "the face is as due" : wrong + " are wrong");
        if (wrong != 0) {
            System.exit(1);
        }
    }

    private static void check(String what, boolean holds) {
        if (!holds) {
            wrong++;
            System.out.println("does not hold: " + what);
        }
    }

    private static void face() {
        Class<WaitingWrites> type = WaitingWrites.class;
        check("public final class", type.getModifiers() == (Modifier.PUBLIC | Modifier.FINAL));
        Set<String> seen = new TreeSet<>();
        for (Method method : type.getDeclaredMethods()) {
            if (Modifier.isPrivate(method.getModifiers())) {
                check("no private " + method.getName(),
                        FACE.stream().noneMatch(f -> f.startsWith(method.getName() + " ")));
            } else {
                check("public " + method, method.getModifiers() == Modifier.PUBLIC);
                check("int " + method, method.getReturnType() == int.class);
                for (Class<?> parameter : method.getParameterTypes()) {
                    check("int parameters of " + method, parameter == int.class);
                }
                seen.add(method.getName() + " " + method.getParameterCount());
            }
        }
        check("methods " + seen, seen.equals(FACE));
        Constructor<?>[] constructors = type.getDeclaredConstructors();
        check("one public constructor of nothing", constructors.length == 1
                && constructors[0].getModifiers() == Modifier.PUBLIC
                && constructors[0].getParameterCount() == 0);
        for (Field field : type.getDeclaredFields()) {
            if (field.getName().equals("NONE")) {
                check("public int constant " + field, field.getType() == int.class
                        && field.getModifiers()
                        == (Modifier.PUBLIC | Modifier.STATIC | Modifier.FINAL));
            } else {
                check("private " + field, Modifier.isPrivate(field.getModifiers()));
            }
        }
        check("NONE is -1", WaitingWrites.NONE == -1);
    }

    /**
     * Wild arguments, and far more calls than the answers are promised for: what they answer is
     * free, and is not looked at, but LANGUAGE.md has no call ever throw.
     */
    private static void endurance() {
        int[] edges = {Integer.MIN_VALUE, -2, -1, 0, 1, 2, 7, 8, 15, 16, 47, 48, 100, 101, 120, 121,
            200, 201, 512, 513, Integer.MAX_VALUE};
        for (int seed = 0; seed < 12; seed++) {
            Random random = new Random(seed);
            WaitingWrites x = new WaitingWrites();
            boolean wild = seed % 2 == 0;
            for (int c = 0; c < 20000; c++) {
                int[] a = new int[3];
                for (int i = 0; i < 3; i++) {
                    a[i] = wild && random.nextInt(3) == 0 ? edges[random.nextInt(edges.length)]
                            : random.nextInt(12);
                }
                try {
                    any(x, random.nextInt(18), a);
                } catch (RuntimeException thrown) {
                    check("no call throws: " + thrown, false);
                    return;
                }
            }
        }
    }

    private static int any(WaitingWrites x, int kind, int[] a) {
        switch (kind) {
            case 0: return x.feed(a[0], a[1], a[2], a[0], a[1]);
            case 1: return x.put(a[0], a[1]);
            case 2: return x.delete(a[0]);
            case 3: return x.get(a[0]);
            case 4: return x.octet(a[0]);
            case 5: return x.list(a[0]);
            case 6: return x.flush();
            case 7: return x.reclaim(a[0]);
            case 8: return x.poll(a[0]);
            case 9: return x.issue(a[0]);
            case 10: return x.settle(a[0]);
            case 11: return a[2] == 3 ? x.crash() : x.about(11);
            case 12: return x.recover();
            case 13: return x.about(a[0]);
            case 14: return x.waiting(a[0], a[1]);
            case 15: return x.extent(a[0], a[1]);
            case 16: return x.disk(a[0], a[1], a[2]);
            default: return x.record(a[0], a[1]);
        }
    }
}
