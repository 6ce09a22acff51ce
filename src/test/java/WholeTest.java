import java.util.ArrayList;
import java.util.Arrays;
import java.util.List;

/**
 * What the document's first sentence says of the whole: "what begins alike lies together; they come and go, are
 * counted by how they begin, found by their rank, and gone through from any place on." Each object of it has
 * thirty triples and stays within its 512 calls.
 */
public final class WholeTest {
    private static final int TOP = 1048575;
    private static final int TRIPLES = 30;
    private static final int[] NUMBERS = {0, 3, 7, TOP};
    private static final int[] PROBES = {0, 1, 3, 5, 7, 8, TOP};
    private static final String[] ORDERS = {"xyz", "xzy", "yxz", "yzx", "zxy", "zyx"};

    private static String round = "";
    private static int wrong = 0;

    private static void due(String what, Object got, Object want) {
        if (!got.equals(want)) {
            wrong++;
            System.out.println(round + what + " answered " + got + ", due is " + want);
        }
    }

    /** Thirty of the 64 triples of NUMBERS, in no order; neither the least nor the greatest, to have places beyond. */
    private static int[] triple(int i) {
        int cell = (i * 37 + 5) % 64;
        return new int[] {NUMBERS[cell / 16], NUMBERS[cell / 4 % 4], NUMBERS[cell % 4]};
    }

    private static void come(PageIndex index, int i) {
        int[] triple = triple(i);
        due("insert " + i, index.insert(triple[0], triple[1], triple[2]), 1);
    }

    private static PageIndex filled(int order) {
        PageIndex index = new PageIndex(order);
        for (int i = 0; i < TRIPLES; i++) {
            come(index, i);
        }
        return index;
    }

    private static List<int[]> sortedKeys(int order) {
        List<int[]> keys = new ArrayList<>();
        for (int i = 0; i < TRIPLES; i++) {
            int[] key = new int[3];
            for (int place = 0; place < 3; place++) {
                key[place] = triple(i)["xyz".indexOf(ORDERS[order].charAt(place))];
            }
            keys.add(key);
        }
        keys.sort(Arrays::compare);
        return keys;
    }

    private static String text(List<int[]> keys) {
        StringBuilder text = new StringBuilder();
        for (int[] key : keys) {
            text.append(Arrays.toString(key));
        }
        return text.toString();
    }

    private static int[] cursor(PageIndex index) {
        return new int[] {index.told(0), index.told(1), index.told(2)};
    }

    private static List<int[]> onward(PageIndex index, boolean stands) {
        List<int[]> keys = new ArrayList<>();
        boolean there = stands || index.next();
        while (there && keys.size() <= TRIPLES) {
            keys.add(cursor(index));
            there = index.next();
        }
        return keys;
    }

    private static List<int[]> backward(PageIndex index) {
        List<int[]> keys = new ArrayList<>();
        while (keys.size() <= TRIPLES && index.previous()) {
            keys.add(0, cursor(index));
        }
        return keys;
    }

    private static boolean beginAlike(int n, int[] one, int[] other) {
        return Arrays.equals(one, 0, n, other, 0, n);
    }

    /** Where a part of keys that begin alike ends, the next key begins with what no key before it began with. */
    private static void liesTogether(int order) {
        PageIndex index = filled(order);
        List<int[]> keys = onward(index, false);
        due("all keys in their order", text(keys), text(sortedKeys(order)));
        for (int n = 0; n <= 3; n++) {
            for (int start = 0; start < keys.size(); ) {
                start = endOfPart(index, keys, n, start);
            }
        }
    }

    private static int endOfPart(PageIndex index, List<int[]> keys, int n, int start) {
        int[] first = keys.get(start);
        String name = " of the first " + n + " of " + Arrays.toString(first);
        int end = start;
        int different = 0;
        while (end < keys.size() && beginAlike(n, first, keys.get(end))) {
            different += end == start || !beginAlike(Math.min(n + 1, 3), keys.get(end - 1), keys.get(end)) ? 1 : 0;
            end++;
        }
        for (int i = end; i < keys.size(); i++) {
            due("lies apart" + name, beginAlike(n, first, keys.get(i)), false);
        }
        due("count" + name, index.count(n, first[0], first[1], first[2]), end - start);
        if (n < 3) {
            due("different" + name, index.different(n, first[0], first[1]), different);
        }
        return end;
    }

    private static void foundByRank(int order) {
        PageIndex index = filled(order);
        List<int[]> keys = sortedKeys(order);
        for (int rank = 0; rank < TRIPLES; rank++) {
            int[] key = keys.get(rank);
            due("choose(" + rank + ")", index.choose(rank), true);
            due("key of rank " + rank, Arrays.toString(cursor(index)), Arrays.toString(key));
            due("rank of " + Arrays.toString(key), index.rank(key[0], key[1], key[2]), rank);
        }
        due("choose(" + TRIPLES + ")", index.choose(TRIPLES), false);
    }

    private static void fromAnyPlaceOn(int order, int... place) {
        List<int[]> before = sortedKeys(order);
        before.removeIf(key -> Arrays.compare(key, place) >= 0);
        List<int[]> behind = sortedKeys(order);
        behind.removeIf(key -> Arrays.compare(key, place) < 0);
        String name = " from " + Arrays.toString(place);
        PageIndex index = filled(order);
        boolean stands = index.seek(place[0], place[1], place[2]);
        due("seek" + name, stands, !behind.isEmpty());
        due("onward" + name, text(stands ? onward(index, true) : List.of()), text(behind));
        index.seek(place[0], place[1], place[2]);
        due("backward" + name, text(backward(index)), text(before));
        due("rank" + name, index.rank(place[0], place[1], place[2]), before.size());
    }

    private static void fromAnyPlace(int order) {
        for (int a : PROBES) {
            for (int b : PROBES) {
                for (int c : PROBES) {
                    fromAnyPlaceOn(order, a, b, c);
                }
            }
        }
    }

    /** The same triples come and go in another way: what is there tells, not how it came. */
    private static void comeAndGo(int order) {
        PageIndex index = new PageIndex(order);
        for (int i = TRIPLES - 1; i >= 0; i--) {
            come(index, i);
        }
        for (int i = 0; i < TRIPLES; i += 2) {
            int[] triple = triple(i);
            due("remove " + i, index.remove(triple[0], triple[1], triple[2]), 1);
        }
        due("half is left", onward(index, false).size(), TRIPLES / 2);
        due("cut", index.cut(1, 7, 0, 0) + index.count(0, 0, 0, 0), TRIPLES / 2);
        for (int i = 0; i < TRIPLES; i++) {
            int[] triple = triple(i);
            index.insert(triple[0], triple[1], triple[2]);
        }
        due("all are there again", text(onward(index, false)), text(sortedKeys(order)));
    }

    /** Objects that are used by turns know nothing of one another. */
    private static void eachForItself() {
        PageIndex[] objects = new PageIndex[ORDERS.length + 1];
        for (int order = 0; order < objects.length; order++) {
            objects[order] = new PageIndex(order);
        }
        PageIndex idle = objects[ORDERS.length];
        for (int i = 0; i < TRIPLES; i++) {
            for (int order = 0; order < ORDERS.length; order++) {
                come(objects[order], i);
            }
        }
        for (int rank = 0; rank < TRIPLES; rank++) {
            for (int order = 0; order < ORDERS.length; order++) {
                due("next of order " + order, objects[order].next(), true);
            }
            for (int order = 0; order < ORDERS.length; order++) {
                String key = Arrays.toString(sortedKeys(order).get(rank));
                due("key of order " + order, Arrays.toString(cursor(objects[order])), key);
            }
        }
        due("size of one without triples", idle.size(), 0);
        due("next of one without triples", idle.next(), false);
    }

    public static void main(String[] args) {
        for (int order = 0; order < ORDERS.length; order++) {
            round = "order " + order + ": ";
            liesTogether(order);
            foundByRank(order);
            fromAnyPlace(order);
            comeAndGo(order);
        }
        round = "by turns: ";
        eachForItself();
        System.out.println(wrong == 0 ? "all answers are as due" : wrong + " answers are not as due");
        if (wrong != 0) {
            System.exit(1);
        }
    }
}
