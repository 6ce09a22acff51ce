/**
 * The limit of 20000 triples. It lies beyond the 512 calls that the document speaks of, so these
 * answers are the program's own; the test holds it to the limit that the document's Terms name.
 */
public final class FullTest {
    private static final int LIMIT = 20000;

    private static int wrong = 0;

    private static void due(String what, int got, int want) {
        if (got != want) {
            wrong++;
            System.out.println(what + " answered " + got + ", due is " + want);
        }
    }

    public static void main(String[] args) {
        PageIndex index = new PageIndex(2);
        for (int i = 0; i < LIMIT; i++) {
            due("insert " + i, index.insert(i * 7919 % LIMIT, i % 100, i), 1);
        }
        due("size", index.size(), LIMIT);
        due("one more", index.insert(1, 1, 1048575), PageIndex.FULL);
        due("one that is there", index.insert(0, 0, 0), 0);
        due("one that is no triple", index.insert(-1, 0, 0), PageIndex.BAD);
        due("size when full", index.size(), LIMIT);
        due("rank of the greatest key", index.rank(1048575, 1048575, 1048575), LIMIT);
        due("choose the last", index.choose(LIMIT - 1) ? 1 : 0, 1);
        due("first number of the last", index.told(0), 99);
        due("count", index.count(1, 50, 0, 0), 200);
        due("different", index.different(0, 0, 0), 100);
        due("remove", index.remove(0, 0, 0), 1);
        due("room for one", index.insert(1, 1, 1048575), 1);
        due("full again", index.insert(1, 1, 1048574), PageIndex.FULL);
        due("cut", index.cut(0, 0, 0, 0), LIMIT);
        due("room again", index.insert(1, 1, 1048574), 1);
        System.out.println(wrong == 0 ? "all answers are as due" : wrong + " answers are not as due");
        if (wrong != 0) {
            System.exit(1);
        }
    }
}
