import java.util.ArrayList;
import java.util.HashSet;
import java.util.List;
import java.util.Random;
import java.util.Set;

/** Runs of 512 calls, always the same ones, on the program and on a plain list of keys that is gone through whole. */
public final class ModelTest {
    private static final int RUNS = 3000;
    private static final int CALLS = 512;
    private static final int TOP = 1048575;
    private static final String[] ORDERS = {"xyz", "xzy", "yxz", "yzx", "zxy", "zyx"};

    /** Keys without order: each answer is looked for among all of them. */
    private static final class Model {
        private final String order;
        private final List<int[]> keys = new ArrayList<>();
        private int[] cursor = null;

        Model(int order) {
            this.order = ORDERS[((order % 6) + 6) % 6];
        }

        static boolean good(int... numbers) {
            for (int number : numbers) {
                if (number < 0 || number > TOP) {
                    return false;
                }
            }
            return true;
        }

        static int compare(int[] one, int[] other) {
            for (int i = 0; i < 3; i++) {
                if (one[i] != other[i]) {
                    return one[i] < other[i] ? -1 : 1;
                }
            }
            return 0;
        }

        static boolean begins(int[] key, int n, int... start) {
            for (int i = 0; i < n; i++) {
                if (key[i] != start[i]) {
                    return false;
                }
            }
            return true;
        }

        int[] key(int x, int y, int z) {
            int[] key = new int[3];
            for (int i = 0; i < 3; i++) {
                key[i] = order.charAt(i) == 'x' ? x : order.charAt(i) == 'y' ? y : z;
            }
            return key;
        }

        int insert(int x, int y, int z) {
            int there = has(x, y, z);
            if (there == 0) {
                keys.add(key(x, y, z));
            }
            return there < 0 ? -1 : 1 - there;
        }

        int remove(int x, int y, int z) {
            if (!good(x, y, z)) {
                return -1;
            }
            int[] gone = key(x, y, z);
            return keys.removeIf(key -> compare(key, gone) == 0) ? 1 : 0;
        }

        int has(int x, int y, int z) {
            if (!good(x, y, z)) {
                return -1;
            }
            int[] sought = key(x, y, z);
            return keys.stream().anyMatch(key -> compare(key, sought) == 0) ? 1 : 0;
        }

        int count(int n, int a, int b, int c) {
            return n < 0 || n > 3 ? -1 : (int) keys.stream().filter(key -> begins(key, n, a, b, c)).count();
        }

        int different(int n, int a, int b) {
            if (n < 0 || n > 2) {
                return -1;
            }
            Set<Integer> found = new HashSet<>();
            for (int[] key : keys) {
                if (begins(key, n, a, b)) {
                    found.add(key[n]);
                }
            }
            return found.size();
        }

        int rank(int a, int b, int c) {
            int[] sought = {a, b, c};
            return good(a, b, c) ? (int) keys.stream().filter(key -> compare(key, sought) < 0).count() : -1;
        }

        boolean choose(int rank) {
            cursor = null;
            for (int[] key : keys) {
                if (rank(key[0], key[1], key[2]) == rank) {
                    cursor = key;
                }
            }
            return cursor != null;
        }

        boolean seek(int a, int b, int c) {
            return good(a, b, c) && first(new int[] {a, b, c}, 0);
        }

        boolean next() {
            return first(cursor == null ? new int[] {-1, -1, -1} : cursor, 1);
        }

        private boolean first(int[] from, int least) {
            int[] found = null;
            for (int[] key : keys) {
                if (compare(key, from) >= least && (found == null || compare(key, found) < 0)) {
                    found = key;
                }
            }
            cursor = found;
            return found != null;
        }

        boolean previous() {
            int[] found = null;
            for (int[] key : keys) {
                boolean before = cursor == null || compare(key, cursor) < 0;
                if (before && (found == null || compare(key, found) > 0)) {
                    found = key;
                }
            }
            cursor = found;
            return found != null;
        }

        int told(int i) {
            if (cursor == null || i < 0 || i > 5) {
                return -1;
            }
            return i < 3 ? cursor[i] : cursor[order.indexOf("xyz".charAt(i - 3))];
        }

        int stands() {
            return cursor != null && keys.stream().anyMatch(key -> compare(key, cursor) == 0) ? 1 : 0;
        }

        int cut(int n, int a, int b, int c) {
            int gone = count(n, a, b, c);
            if (gone > 0) {
                keys.removeIf(key -> begins(key, n, a, b, c));
            }
            return gone;
        }
    }

    private final Random random;
    private final PageIndex index;
    private final Model model;
    private final String name;
    private final int kind;

    private ModelTest(int run) {
        random = new Random(run);
        int order = run % 8 == 7 ? random.nextInt() : run % 8 - 1;
        index = new PageIndex(order);
        model = new Model(order);
        name = "run " + run + ", order " + order;
        kind = run % 5;
    }

    private int number() {
        int chance = random.nextInt(100);
        if (chance == 0) {
            return random.nextBoolean() ? -1 : TOP + 1;
        }
        if (chance == 1) {
            return random.nextInt();
        }
        switch (kind) {
            case 0:
                return random.nextInt(3);
            case 1:
                return TOP - random.nextInt(3);
            case 2:
                return random.nextInt(8);
            case 3:
                return random.nextBoolean() ? random.nextInt(2) : TOP - random.nextInt(2);
            default:
                return random.nextInt(12) << 16 | random.nextInt(2);
        }
    }

    private boolean same(String call, int got, int want) {
        if (got != want) {
            System.out.println(name + ": " + call + " answered " + got + ", due is " + want);
        }
        return got == want;
    }

    private boolean same(String call, boolean got, boolean want) {
        return same(call, got ? 1 : 0, want ? 1 : 0);
    }

    private boolean call() {
        int a = number();
        int b = number();
        int c = number();
        int n = random.nextInt(40) == 0 ? random.nextInt(9) - 3 : random.nextInt(4);
        String all = "(" + n + "; " + a + ", " + b + ", " + c + ")";
        switch (random.nextInt(26)) {
            case 0:
                return same("remove" + all, index.remove(a, b, c), model.remove(a, b, c));
            case 1:
                return same("has" + all, index.has(a, b, c), model.has(a, b, c));
            case 2:
                return same("count" + all, index.count(n, a, b, c), model.count(n, a, b, c));
            case 3:
                return same("different" + all, index.different(n, a, b), model.different(n, a, b));
            case 4:
                return same("rank" + all, index.rank(a, b, c), model.rank(a, b, c));
            case 5:
                int rank = random.nextInt(model.keys.size() + 3) - 1;
                return same("choose(" + rank + ")", index.choose(rank), model.choose(rank));
            case 6:
                return same("seek" + all, index.seek(a, b, c), model.seek(a, b, c));
            case 7:
            case 8:
                return same("next()", index.next(), model.next());
            case 9:
            case 10:
                return same("previous()", index.previous(), model.previous());
            case 11:
            case 12:
            case 13:
                int i = random.nextInt(8) - 1;
                return same("told(" + i + ")", index.told(i), model.told(i));
            case 14:
                return same("stands()", index.stands(), model.stands());
            case 15:
                return same("size()", index.size(), model.keys.size());
            case 16:
                int most = random.nextInt(6) == 0 ? n : n | 2;
                return same("cut(" + most + ")" + all, index.cut(most, a, b, c), model.cut(most, a, b, c));
            case 17:
                return removeAtCursor();
            default:
                return same("insert" + all, index.insert(a, b, c), model.insert(a, b, c));
        }
    }

    /** What the cursor stands at goes or comes again: chance alone would seldom do it. */
    private boolean removeAtCursor() {
        int x = model.told(3);
        int y = model.told(4);
        int z = model.told(5);
        if (model.stands() == 1) {
            return same("remove at the cursor", index.remove(x, y, z), model.remove(x, y, z));
        }
        return same("insert at the cursor", index.insert(x, y, z), model.insert(x, y, z));
    }

    public static void main(String[] args) {
        int wrong = 0;
        for (int run = 0; run < RUNS; run++) {
            ModelTest test = new ModelTest(run);
            boolean right = true;
            for (int call = 0; call < CALLS && right; call++) {
                right = test.call();
            }
            wrong += right ? 0 : 1;
        }
        System.out.println(wrong == 0 ? "all answers are as due" : wrong + " runs are not as due");
        if (wrong != 0) {
            System.exit(1);
        }
    }
}
