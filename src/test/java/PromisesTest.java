/** Each promise of the document by hand: ordinary inputs, the edges that it names, and wrong inputs. */
public final class PromisesTest {
    private static final int BAD = -1;
    private static final int TOP = 1048575;
    private static final int LEAST = Integer.MIN_VALUE;
    private static final int MOST = Integer.MAX_VALUE;
    // Its one bit would spill into the number before it, if the numbers of a key were joined unlooked at.
    private static final int SPILLS = 2 << 20;
    private static final int[] NO_NUMBERS = {-1, TOP + 1, LEAST, MOST};

    private static int wrong = 0;

    private static void due(String what, int got, int want) {
        if (got != want) {
            wrong++;
            System.out.println(what + " answered " + got + ", due is " + want);
        }
    }

    private static void due(String what, boolean got, boolean want) {
        due(what, got ? 1 : 0, want ? 1 : 0);
    }

    private static void dueKey(String what, PageIndex index, int a, int b, int c) {
        due(what + ": told(0)", index.told(0), a);
        due(what + ": told(1)", index.told(1), b);
        due(what + ": told(2)", index.told(2), c);
    }

    private static void dueEnd(String what, PageIndex index) {
        for (int i = 0; i < 6; i++) {
            due(what + ": told(" + i + ") at the END", index.told(i), BAD);
        }
        due(what + ": stands() at the END", index.stands(), 0);
    }

    /** In order 0: 1 1 1, 1 1 5, 1 3 2, 2 0 0, 2 0 9, 2 7 7, 4 4 4. */
    private static PageIndex seven() {
        PageIndex index = new PageIndex(0);
        index.insert(2, 7, 7);
        index.insert(1, 1, 5);
        index.insert(4, 4, 4);
        index.insert(1, 1, 1);
        index.insert(2, 0, 9);
        index.insert(1, 3, 2);
        index.insert(2, 0, 0);
        return index;
    }

    private static void order(int order, int a, int b, int c) {
        String what = "1: order " + order;
        PageIndex index = new PageIndex(order);
        due(what + ": size", index.size(), 0);
        due(what + ": count", index.count(0, 0, 0, 0), 0);
        dueEnd(what, index);
        due(what + ": next", index.next(), false);
        due(what + ": insert", index.insert(10, 20, 30), 1);
        due(what + ": next", index.next(), true);
        dueKey(what, index, a, b, c);
        due(what + ": told(3)", index.told(3), 10);
        due(what + ": told(4)", index.told(4), 20);
        due(what + ": told(5)", index.told(5), 30);
        due(what + ": count", index.count(3, a, b, c), 1);
        due(what + ": has", index.has(10, 20, 30), 1);
        due(what + ": remove", index.remove(10, 20, 30), 1);
    }

    private static void newObject() {
        order(0, 10, 20, 30);
        order(1, 10, 30, 20);
        order(2, 20, 10, 30);
        order(3, 20, 30, 10);
        order(4, 30, 10, 20);
        order(5, 30, 20, 10);
        order(6, 10, 20, 30);
        order(11, 30, 20, 10);
        order(-1, 30, 20, 10);
        order(-5, 10, 30, 20);
        order(-6, 10, 20, 30);
        order(MOST, 10, 30, 20);
        order(LEAST, 30, 10, 20);
    }

    private static void insert() {
        PageIndex index = new PageIndex(0);
        due("2: first", index.insert(3, 2, 1), 1);
        due("2: again", index.insert(3, 2, 1), 0);
        due("2: other", index.insert(1, 2, 3), 1);
        due("2: size", index.size(), 2);
        for (int none : NO_NUMBERS) {
            due("2: x " + none, index.insert(none, 0, 0), BAD);
            due("2: y " + none, index.insert(0, none, 0), BAD);
            due("2: z " + none, index.insert(0, 0, none), BAD);
        }
        due("2: size after BAD", index.size(), 2);
        due("2: least", index.insert(0, 0, 0), 1);
        due("2: greatest", index.insert(TOP, TOP, TOP), 1);
        due("2: greatest again", index.insert(TOP, TOP, TOP), 0);
        due("2: size in the end", index.size(), 4);
        dueEnd("2: the cursor stays", index);
    }

    /** So many as the document's 512 calls can bring, each at another place of the row. */
    private static void insertMany() {
        PageIndex index = new PageIndex(3);
        for (int i = 0; i < 500; i++) {
            due("2: of many " + i, index.insert(i * 7 % 500, TOP - i, i), 1);
        }
        due("2: many", index.size(), 500);
        due("2: first of many", index.next(), true);
        dueKey("2: first of many", index, TOP - 499, 499, 499 * 7 % 500);
    }

    private static void remove() {
        PageIndex index = seven();
        due("3: there", index.remove(2, 0, 0), 1);
        due("3: gone", index.remove(2, 0, 0), 0);
        due("3: size", index.size(), 6);
        due("3: has", index.has(2, 0, 0), 0);
        due("3: neighbour before", index.has(1, 3, 2), 1);
        due("3: neighbour behind", index.has(2, 0, 9), 1);
        due("3: first", index.remove(1, 1, 1), 1);
        due("3: last", index.remove(4, 4, 4), 1);
        due("3: never there", index.remove(9, 9, 9), 0);
        for (int none : NO_NUMBERS) {
            due("3: x " + none, index.remove(none, 0, 0), BAD);
            due("3: y " + none, index.remove(0, none, 0), BAD);
            due("3: z " + none, index.remove(0, 0, none), BAD);
        }
        due("3: size in the end", index.size(), 4);
        due("3: comes again", index.insert(2, 0, 0), 1);
        due("3: is there again", index.has(2, 0, 0), 1);
    }

    private static void has() {
        PageIndex index = new PageIndex(4);
        due("4: none", index.has(1, 2, 3), 0);
        index.insert(1, 2, 3);
        due("4: there", index.has(1, 2, 3), 1);
        due("4: as key", index.has(3, 1, 2), 0);
        due("4: greatest not there", index.has(TOP, TOP, TOP), 0);
        for (int none : NO_NUMBERS) {
            due("4: x " + none, index.has(none, 2, 3), BAD);
            due("4: y " + none, index.has(1, none, 3), BAD);
            due("4: z " + none, index.has(1, 2, none), BAD);
        }
        due("4: changes nothing", index.size(), 1);
    }

    private static void count() {
        PageIndex index = seven();
        due("5: all", index.count(0, -1, LEAST, MOST), 7);
        due("5: one", index.count(1, 2, -1, TOP + 1), 3);
        due("5: two", index.count(2, 2, 0, -1), 2);
        due("5: three", index.count(3, 2, 0, 9), 1);
        due("5: none of one", index.count(1, 3, 0, 0), 0);
        due("5: none of two", index.count(2, 1, 2, 0), 0);
        due("5: none of three", index.count(3, 2, 0, 1), 0);
        for (int none : NO_NUMBERS) {
            due("5: a " + none, index.count(1, none, 0, 0), 0);
            due("5: b " + none, index.count(2, 1, none, 0), 0);
            due("5: c " + none, index.count(3, 1, 1, none), 0);
            due("5: n " + none, index.count(none, 1, 1, 1), BAD);
        }
        due("5: b that spills", index.count(2, 2, SPILLS, 0), 0);
        due("5: c that spills", index.count(3, 2, 7, SPILLS | 7), 0);
        due("5: n 4", index.count(4, -1, 0, 0), BAD);
        due("5: n -1", index.count(-1, -1, 0, 0), BAD);
        index.insert(TOP, TOP, TOP);
        index.insert(TOP, TOP, 0);
        index.insert(TOP, 0, TOP);
        due("5: greatest of one", index.count(1, TOP, 0, 0), 3);
        due("5: greatest of two", index.count(2, TOP, TOP, 0), 2);
        due("5: greatest of three", index.count(3, TOP, TOP, TOP), 1);
        due("5: with the greatest", index.count(0, 0, 0, 0), 10);
    }

    private static void countByKey() {
        PageIndex index = new PageIndex(5);
        index.insert(1, 2, 3);
        index.insert(4, 2, 3);
        index.insert(1, 5, 3);
        due("5: by z", index.count(1, 3, 0, 0), 3);
        due("5: by z y", index.count(2, 3, 2, 0), 2);
        due("5: by x", index.count(1, 1, 0, 0), 0);
    }

    private static void different() {
        PageIndex index = seven();
        due("6: firsts", index.different(0, -1, MOST), 3);
        due("6: behind 1", index.different(1, 1, -1), 2);
        due("6: behind 2", index.different(1, 2, 0), 2);
        due("6: behind 4", index.different(1, 4, 0), 1);
        due("6: behind 3", index.different(1, 3, 0), 0);
        due("6: behind 1 1", index.different(2, 1, 1), 2);
        due("6: behind 2 7", index.different(2, 2, 7), 1);
        due("6: behind 2 1", index.different(2, 2, 1), 0);
        for (int none : NO_NUMBERS) {
            due("6: a " + none, index.different(1, none, 0), 0);
            due("6: b " + none, index.different(2, 1, none), 0);
        }
        due("6: b that spills", index.different(2, 2, SPILLS), 0);
        due("6: n 3", index.different(3, 1, 1), BAD);
        due("6: n -1", index.different(-1, 1, 1), BAD);
        due("6: n least", index.different(LEAST, 1, 1), BAD);
        due("6: n most", index.different(MOST, 1, 1), BAD);
        index.insert(0, 0, 0);
        index.insert(TOP, TOP, TOP);
        due("6: with the outermost", index.different(0, 0, 0), 5);
        due("6: behind 0", index.different(1, 0, 0), 1);
        due("6: behind 0 0", index.different(2, 0, 0), 1);
        due("6: behind the greatest", index.different(2, TOP, TOP), 1);
    }

    private static void rank() {
        PageIndex index = seven();
        due("7: least key", index.rank(0, 0, 0), 0);
        due("7: first", index.rank(1, 1, 1), 0);
        due("7: behind first", index.rank(1, 1, 2), 1);
        due("7: middle", index.rank(2, 0, 0), 3);
        due("7: between", index.rank(3, 0, 0), 6);
        due("7: last", index.rank(4, 4, 4), 6);
        due("7: greatest key", index.rank(TOP, TOP, TOP), 7);
        for (int none : NO_NUMBERS) {
            due("7: a " + none, index.rank(none, 0, 0), BAD);
            due("7: b " + none, index.rank(0, none, 0), BAD);
            due("7: c " + none, index.rank(0, 0, none), BAD);
        }
        dueEnd("7: the cursor stays", index);
    }

    private static void choose() {
        PageIndex index = seven();
        due("8: 0", index.choose(0), true);
        dueKey("8: 0", index, 1, 1, 1);
        due("8: 3", index.choose(3), true);
        dueKey("8: 3", index, 2, 0, 0);
        due("8: 6", index.choose(6), true);
        dueKey("8: 6", index, 4, 4, 4);
        for (int none : new int[] {7, -1, LEAST, MOST}) {
            index.choose(2);
            due("8: " + none, index.choose(none), false);
            dueEnd("8: " + none, index);
        }
    }

    private static void seek() {
        PageIndex index = seven();
        due("9: a triple's key", index.seek(2, 0, 0), true);
        dueKey("9: a triple's key", index, 2, 0, 0);
        due("9: between", index.seek(2, 0, 1), true);
        dueKey("9: between", index, 2, 0, 9);
        due("9: before all", index.seek(0, 0, 0), true);
        dueKey("9: before all", index, 1, 1, 1);
        for (int none : NO_NUMBERS) {
            due("9: a " + none, index.seek(none, 0, 0), false);
            due("9: b " + none, index.seek(0, none, 0), false);
            due("9: c " + none, index.seek(0, 0, none), false);
            dueKey("9: BAD changes nothing", index, 1, 1, 1);
        }
        due("9: behind all", index.seek(4, 4, 5), false);
        dueEnd("9: behind all", index);
        due("9: BAD at the END", index.seek(-1, 0, 0), false);
        dueEnd("9: BAD at the END", index);
        PageIndex other = new PageIndex(3);
        other.insert(1, 2, 3);
        due("9: by key", other.seek(2, 3, 1), true);
        due("9: by key, behind", other.seek(2, 3, 2), false);
    }

    private static void next() {
        PageIndex index = seven();
        int[][] keys = {{1, 1, 1}, {1, 1, 5}, {1, 3, 2}, {2, 0, 0}, {2, 0, 9}, {2, 7, 7}, {4, 4, 4}};
        for (int round = 0; round < 2; round++) {
            for (int[] key : keys) {
                due("10: next", index.next(), true);
                dueKey("10: next", index, key[0], key[1], key[2]);
            }
            due("10: behind the last", index.next(), false);
            dueEnd("10: behind the last", index);
        }
        index.seek(2, 0, 0);
        index.remove(2, 0, 0);
        index.insert(2, 0, 1);
        due("10: from a key without a triple", index.next(), true);
        dueKey("10: from a key without a triple", index, 2, 0, 1);
        index.insert(TOP, TOP, TOP);
        index.seek(TOP, TOP, TOP);
        due("10: from the greatest key", index.next(), false);
        dueEnd("10: from the greatest key", index);
    }

    private static void previous() {
        PageIndex index = seven();
        int[][] keys = {{4, 4, 4}, {2, 7, 7}, {2, 0, 9}, {2, 0, 0}, {1, 3, 2}, {1, 1, 5}, {1, 1, 1}};
        for (int round = 0; round < 2; round++) {
            for (int[] key : keys) {
                due("11: previous", index.previous(), true);
                dueKey("11: previous", index, key[0], key[1], key[2]);
            }
            due("11: before the first", index.previous(), false);
            dueEnd("11: before the first", index);
        }
        index.seek(2, 0, 9);
        index.remove(2, 0, 9);
        index.insert(2, 0, 8);
        due("11: from a key without a triple", index.previous(), true);
        dueKey("11: from a key without a triple", index, 2, 0, 8);
        index.insert(0, 0, 0);
        index.seek(0, 0, 0);
        due("11: from the least key", index.previous(), false);
        dueEnd("11: from the least key", index);
    }

    private static void told() {
        PageIndex index = new PageIndex(3);
        index.insert(TOP, 0, 7);
        dueEnd("12: at first", index);
        index.next();
        dueKey("12: the key", index, 0, 7, TOP);
        due("12: x", index.told(3), TOP);
        due("12: y", index.told(4), 0);
        due("12: z", index.told(5), 7);
        for (int i : new int[] {-1, 6, LEAST, MOST}) {
            due("12: told(" + i + ")", index.told(i), BAD);
        }
        index.remove(TOP, 0, 7);
        dueKey("12: the triple is gone", index, 0, 7, TOP);
        due("12: x of the triple that is gone", index.told(3), TOP);
    }

    private static void stands() {
        PageIndex index = seven();
        due("13: at the END", index.stands(), 0);
        index.choose(3);
        due("13: at a triple", index.stands(), 1);
        index.insert(1, 0, 0);
        index.remove(4, 4, 4);
        due("13: others come and go", index.stands(), 1);
        dueKey("13: others come and go", index, 2, 0, 0);
        index.remove(2, 0, 0);
        due("13: it goes", index.stands(), 0);
        dueKey("13: it goes", index, 2, 0, 0);
        index.insert(2, 0, 0);
        due("13: it comes again", index.stands(), 1);
        index.cut(1, 2, 0, 0);
        due("13: it is cut", index.stands(), 0);
        dueKey("13: it is cut", index, 2, 0, 0);
        index.cut(0, 0, 0, 0);
        due("13: all are cut", index.stands(), 0);
        dueKey("13: all are cut", index, 2, 0, 0);
    }

    private static void size() {
        PageIndex index = new PageIndex(1);
        due("14: none", index.size(), 0);
        for (int i = 1; i <= 200; i++) {
            index.insert(i % 3, i, 0);
            due("14: come", index.size(), i);
        }
        index.insert(1, 1, 0);
        index.insert(-1, 1, 0);
        due("14: nothing comes", index.size(), 200);
        index.remove(1, 1, 0);
        index.remove(1, 1, 0);
        due("14: one goes", index.size(), 199);
        due("14: some are cut", index.cut(1, 2, 0, 0), 67);
        due("14: some are cut", index.size(), 132);
    }

    private static void cut() {
        PageIndex index = seven();
        for (int n : new int[] {4, -1, LEAST, MOST}) {
            due("15: n " + n, index.cut(n, 1, 1, 1), BAD);
        }
        for (int none : NO_NUMBERS) {
            due("15: a " + none, index.cut(1, none, 0, 0), 0);
            due("15: b " + none, index.cut(2, 1, none, 0), 0);
            due("15: c " + none, index.cut(3, 1, 1, none), 0);
        }
        due("15: b that spills", index.cut(2, 2, SPILLS, 0), 0);
        due("15: c that spills", index.cut(3, 2, 7, SPILLS | 7), 0);
        due("15: nothing goes", index.size(), 7);
        due("15: three", index.cut(3, 1, 1, 5), 1);
        due("15: three again", index.cut(3, 1, 1, 5), 0);
        due("15: two", index.cut(2, 2, 0, -1), 2);
        due("15: one", index.cut(1, 1, -1, -1), 2);
        due("15: size", index.size(), 2);
        due("15: stays", index.has(2, 7, 7), 1);
        due("15: stays", index.has(4, 4, 4), 1);
        due("15: goes", index.has(1, 3, 2), 0);
        due("15: all", index.cut(0, -1, -1, -1), 2);
        due("15: none left", index.size(), 0);
        due("15: none left to go", index.cut(0, 0, 0, 0), 0);
        due("15: comes again", index.insert(2, 7, 7), 1);
        due("15: is there again", index.count(1, 2, 0, 0), 1);
    }

    public static void main(String[] args) {
        newObject();
        insert();
        insertMany();
        remove();
        has();
        count();
        countByKey();
        different();
        rank();
        choose();
        seek();
        next();
        previous();
        told();
        stands();
        size();
        cut();
        System.out.println(wrong == 0 ? "all answers are as due" : wrong + " answers are not as due");
        if (wrong != 0) {
            System.exit(1);
        }
    }
}
