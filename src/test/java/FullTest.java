/**
 * "at most 20000 are there", and insert()'s FULL. The limit lies beyond the 512 calls that the document speaks of,
 * so these answers are the program's own; the test holds it to the limit that the document's Terms name.
 */
public final class FullTest {
    private static final int LIMIT = 20000;
    private static final int TOP = 1048575;

    private static String round = "";
    private static int wrong = 0;

    private static void due(String what, Object got, Object want) {
        if (!got.equals(want)) {
            wrong++;
            System.out.println(round + what + " answered " + got + ", due is " + want);
        }
    }

    /** Each triple has its own x, all of 0 .. 19999, and y is the hundreds' rest of the number that it came as. */
    private static PageIndex filled(int order, int triples) {
        PageIndex index = new PageIndex(order);
        for (int i = 0; i < triples; i++) {
            due("insert " + i, index.insert(i * 7919 % LIMIT, i % 100, i), 1);
        }
        return index;
    }

    private static void fills(int order) {
        PageIndex index = filled(order, LIMIT - 1);
        due("size just below", index.size(), LIMIT - 1);
        due("the last that has room", index.insert(TOP, TOP, TOP), 1);
        due("size at the limit", index.size(), LIMIT);
        due("one more", index.insert(TOP, TOP, 0), PageIndex.FULL);
        due("one more before all", index.insert(0, 0, 1), PageIndex.FULL);
        due("one that is there", index.insert(TOP, TOP, TOP), 0);
        due("one that is no triple", index.insert(TOP + 1, TOP, TOP), PageIndex.BAD);
        due("one that is no triple", index.insert(0, -1, 0), PageIndex.BAD);
        due("size after all that", index.size(), LIMIT);
    }

    private static void fullChangesNothing(int order) {
        PageIndex index = filled(order, LIMIT);
        index.choose(LIMIT / 2);
        int[] key = {index.told(0), index.told(1), index.told(2)};
        due("FULL", index.insert(TOP, TOP, 0), PageIndex.FULL);
        due("has what found no room", index.has(TOP, TOP, 0), 0);
        due("count of all", index.count(0, 0, 0, 0), LIMIT);
        due("stands", index.stands(), 1);
        for (int i = 0; i < 3; i++) {
            due("told " + i, index.told(i), key[i]);
        }
        due("rank of the cursor's key", index.rank(key[0], key[1], key[2]), LIMIT / 2);
        due("rank of the greatest key", index.rank(TOP, TOP, TOP), LIMIT);
        due("choose the last", index.choose(LIMIT - 1), true);
        due("next of the last", index.next(), false);
        due("choose one more", index.choose(LIMIT), false);
        for (int i = 0; i < LIMIT; i++) {
            due("has " + i, index.has(i * 7919 % LIMIT, i % 100, i), 1);
        }
    }

    private static void roomAgain(int order) {
        PageIndex index = filled(order, LIMIT);
        due("remove", index.remove(0, 0, 0), 1);
        due("room for one", index.insert(TOP, TOP, 0), 1);
        due("and for no more", index.insert(TOP, TOP, 1), PageIndex.FULL);
        index.next();
        due("cut of one", index.cut(3, index.told(0), index.told(1), index.told(2)), 1);
        due("room for one", index.insert(TOP, TOP, 1), 1);
        due("and for no more", index.insert(TOP, TOP, 2), PageIndex.FULL);
        due("cut of all", index.cut(0, 0, 0, 0), LIMIT);
        due("room for all", index.insert(TOP, TOP, 2), 1);
        due("size", index.size(), 1);
    }

    private static void countsWhenFull() {
        PageIndex index = filled(2, LIMIT);
        due("count", index.count(1, 50, 0, 0), 200);
        due("different", index.different(0, 0, 0), 100);
        due("different behind one", index.different(1, 99, 0), 200);
        due("choose the last", index.choose(LIMIT - 1), true);
        due("first number of the last", index.told(0), 99);
        due("cut", index.cut(1, 99, 0, 0), 200);
        for (int i = 0; i < 200; i++) {
            due("room for what was cut", index.insert(TOP, TOP, i), 1);
        }
        due("and for no more", index.insert(TOP, TOP, 200), PageIndex.FULL);
    }

    public static void main(String[] args) {
        for (int order = 0; order < 6; order++) {
            round = "order " + order + ": ";
            fills(order);
            fullChangesNothing(order);
            roomAgain(order);
        }
        countsWhenFull();
        System.out.println(wrong == 0 ? "all answers are as due" : wrong + " answers are not as due");
        if (wrong != 0) {
            System.exit(1);
        }
    }
}
