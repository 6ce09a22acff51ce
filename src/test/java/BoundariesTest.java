/**
 * Each sentence of the document that names a boundary case, in a test of its own that bears the sentence's words.
 * Each is held to with no triples, with one, and after triples came and went, in all six orders.
 */
public final class BoundariesTest {
    private static final int BAD = -1;
    private static final int TOP = 1048575;
    private static final int LEAST = Integer.MIN_VALUE;
    private static final int MOST = Integer.MAX_VALUE;
    private static final int[] NO_NUMBERS = {-1, TOP + 1, LEAST, MOST};
    private static final String[] ORDERS = {"xyz", "xzy", "yxz", "yzx", "zxy", "zyx"};
    private static final String END = "END";

    private static String round = "";
    private static String sentence = "";
    private static int wrong = 0;

    private static void says(String words) {
        sentence = words;
    }

    /** Besides the plain ones those that would be the number itself, if what lies above its twenty bits were dropped. */
    private static int[] noNumbersLike(int number) {
        int above = TOP + 1;
        return new int[] {-1, above, LEAST, MOST, number + above, number + 2 * above, number - above, number + LEAST};
    }

    private static void due(String call, Object got, Object want) {
        if (!got.equals(want)) {
            wrong++;
            System.out.println(round + sentence + ": " + call + " answered " + got + ", due is " + want);
        }
    }

    /** An object whose triples are named by their keys, so that one test serves all six orders. */
    private static final class ByKey {
        private final int order;
        private final PageIndex index;

        ByKey(int order) {
            this.order = order;
            index = new PageIndex(order);
        }

        private int number(char name, int a, int b, int c) {
            int place = ORDERS[order].indexOf(name);
            return place == 0 ? a : place == 1 ? b : c;
        }

        int insert(int a, int b, int c) {
            return index.insert(number('x', a, b, c), number('y', a, b, c), number('z', a, b, c));
        }

        int remove(int a, int b, int c) {
            return index.remove(number('x', a, b, c), number('y', a, b, c), number('z', a, b, c));
        }

        int has(int a, int b, int c) {
            return index.has(number('x', a, b, c), number('y', a, b, c), number('z', a, b, c));
        }

        /** The cursor's place in words: a key that no triple has stands in brackets. */
        String cursor() {
            boolean end = true;
            for (int i = 0; i < 6; i++) {
                end = end && index.told(i) == BAD;
            }
            if (end && index.stands() == 0) {
                return END;
            }
            String key = index.told(0) + " " + index.told(1) + " " + index.told(2);
            return index.stands() == 1 ? key : "(" + key + ")";
        }

        /** The keys of all triples in their order; the cursor is at the END then. */
        String all() {
            StringBuilder keys = new StringBuilder();
            for (int rank = 0; rank < 1000 && index.choose(rank); rank++) {
                keys.append(rank == 0 ? "" : ", ").append(cursor());
            }
            return keys.toString();
        }
    }

    private static ByKey none(int order) {
        return new ByKey(order);
    }

    /** Triples came and all of them went: by remove() and by cut(). */
    private static ByKey emptied(int order) {
        ByKey object = new ByKey(order);
        object.insert(5, 6, 7);
        object.insert(5, 6, 8);
        object.insert(0, 0, 0);
        object.remove(5, 6, 7);
        object.index.cut(0, 0, 0, 0);
        return object;
    }

    private static ByKey one(int order) {
        ByKey object = new ByKey(order);
        object.insert(5, 6, 7);
        return object;
    }

    private static final String WORN = "0 0 0, 5 6 7, 5 6 9, 5 8 1, 1048575 1048575 1048575";

    /** Triples came and went; those of WORN are left. */
    private static ByKey worn(int order) {
        ByKey object = new ByKey(order);
        object.insert(TOP, TOP, TOP);
        object.insert(5, 6, 8);
        object.insert(5, 6, 9);
        object.insert(4, 4, 4);
        object.insert(5, 8, 1);
        object.insert(0, 0, 0);
        object.insert(TOP, 0, 0);
        object.insert(5, 6, 7);
        object.insert(4, 4, 5);
        object.remove(5, 6, 8);
        object.remove(TOP, 0, 0);
        object.index.cut(1, 4, 0, 0);
        return object;
    }

    private static ByKey wornAt(int order, int a, int b, int c) {
        ByKey object = worn(order);
        object.index.seek(a, b, c);
        return object;
    }

    private static ByKey oneAtIt(int order) {
        ByKey object = one(order);
        object.index.next();
        return object;
    }

    /** The cursor stays at the key 5 6 7, whose triple has gone; no other is there. */
    private static ByKey noneAtGone(int order) {
        ByKey object = oneAtIt(order);
        object.remove(5, 6, 7);
        return object;
    }

    private static void numbersReach(int order) {
        says("Terms: \"each 0 .. 1048575\"");
        int[][] edges = {{0, 1, 1}, {1, 0, 1}, {1, 1, 0}, {TOP, 1, 1}, {1, TOP, 1}, {1, 1, TOP}, {0, 0, 0}, {TOP, TOP, TOP}};
        ByKey object = none(order);
        for (int[] key : edges) {
            String name = key[0] + " " + key[1] + " " + key[2];
            due("has " + name, object.has(key[0], key[1], key[2]), 0);
            due("insert " + name, object.insert(key[0], key[1], key[2]), 1);
            due("has " + name, object.has(key[0], key[1], key[2]), 1);
            due("seek " + name, object.index.seek(key[0], key[1], key[2]), true);
            due("cursor at " + name, object.cursor(), name);
        }
        due("all", object.all(), "0 0 0, 0 1 1, 1 0 1, 1 1 0, 1 1 1048575, 1 1048575 1, 1048575 1 1, "
            + "1048575 1048575 1048575");
        for (int[] key : edges) {
            due("remove", object.remove(key[0], key[1], key[2]), 1);
        }
        due("size when all are gone", object.index.size(), 0);
    }

    private static void numbersEnd(ByKey object) {
        says("Terms: \"each 0 .. 1048575\"");
        String before = object.cursor();
        int size = object.index.size();
        for (int no : NO_NUMBERS) {
            int[][] keys = {{no, 6, 7}, {5, no, 7}, {5, 6, no}};
            for (int[] key : keys) {
                String name = key[0] + " " + key[1] + " " + key[2];
                due("insert " + name, object.insert(key[0], key[1], key[2]), BAD);
                due("has " + name, object.has(key[0], key[1], key[2]), BAD);
                due("remove " + name, object.remove(key[0], key[1], key[2]), BAD);
                due("rank " + name, object.index.rank(key[0], key[1], key[2]), BAD);
                due("seek " + name, object.index.seek(key[0], key[1], key[2]), false);
                due("count " + name, object.index.count(3, key[0], key[1], key[2]), 0);
            }
        }
        due("size", object.index.size(), size);
        due("cursor", object.cursor(), before);
    }

    private static void noneTwice(int order) {
        says("Terms: \"none twice\"");
        ByKey object = worn(order);
        object.insert(5, 6, 7);
        object.insert(0, 0, 0);
        object.insert(TOP, TOP, TOP);
        due("size", object.index.size(), 5);
        due("all", object.all(), WORN);
        object.remove(5, 6, 7);
        due("has what came twice and went once", object.has(5, 6, 7), 0);
        ByKey turned = none(order);
        due("insert 1 2 3", turned.insert(1, 2, 3), 1);
        due("insert 1 3 2, another", turned.insert(1, 3, 2), 1);
        due("insert 3 2 1, another", turned.insert(3, 2, 1), 1);
        due("size", turned.index.size(), 3);
    }

    private static void cursorAtAnyKey(int order) {
        says("Terms: \"at a key, whether a triple has it or not\"");
        ByKey object = oneAtIt(order);
        due("at the triple", object.cursor(), "5 6 7");
        object.remove(5, 6, 7);
        due("removed", object.cursor(), "(5 6 7)");
        object.insert(5, 6, 7);
        due("come again", object.cursor(), "5 6 7");
        object.index.cut(2, 5, 6, 0);
        due("cut", object.cursor(), "(5 6 7)");
        for (int edge : new int[] {0, TOP}) {
            ByKey outermost = wornAt(order, edge, edge, edge);
            outermost.remove(edge, edge, edge);
            due("outermost key", outermost.cursor(), "(" + edge + " " + edge + " " + edge + ")");
        }
    }

    private static void cursorAtFirst(int order) {
        says("Terms: \"at first at the END\"");
        due("no triples", none(order).cursor(), END);
        due("one", one(order).cursor(), END);
        due("came and went", worn(order).cursor(), END);
        due("came and all went", emptied(order).cursor(), END);
    }

    private static void comeAndGo(ByKey object, String place) {
        object.insert(5, 6, 6);
        due("one just before has come", object.cursor(), place);
        object.insert(5, 6, 8);
        due("one just behind has come", object.cursor(), place);
        object.insert(0, 0, 1);
        object.insert(TOP, TOP, TOP - 1);
        due("outermost have come", object.cursor(), place);
        object.remove(5, 6, 6);
        due("one just before has gone", object.cursor(), place);
        object.remove(5, 6, 8);
        due("one just behind has gone", object.cursor(), place);
        object.index.cut(1, 0, 0, 0);
        object.index.cut(1, TOP, 0, 0);
        due("outermost are cut", object.cursor(), place);
        for (int i = 0; i < 80; i++) {
            object.insert(5, 6, 100 + i);
            object.insert(4, i, 0);
        }
        due("many have come", object.cursor(), place);
        object.index.cut(1, 4, 0, 0);
        due("many before are cut", object.cursor(), place);
    }

    private static void cursorStays(int order) {
        says("Terms: \"It stays where it is when triples come and go.\"");
        comeAndGo(none(order), END);
        comeAndGo(one(order), END);
        comeAndGo(oneAtIt(order), "5 6 7");
        comeAndGo(noneAtGone(order), "(5 6 7)");
        comeAndGo(worn(order), END);
        comeAndGo(wornAt(order, 5, 6, 7), "5 6 7");
        ByKey behindAll = wornAt(order, TOP, TOP, TOP);
        behindAll.index.next();
        comeAndGo(behindAll, END);
        ByKey cut = wornAt(order, 5, 6, 7);
        cut.index.cut(0, 0, 0, 0);
        due("all are cut", cut.cursor(), "(5 6 7)");
    }

    private static void orderIs(int order, int place) {
        says("Promise 1: \"number order modulo 6 (0 .. 5)\", \"No triples\"");
        PageIndex index = new PageIndex(order);
        String name = "order " + order;
        due(name + ", size", index.size(), 0);
        due(name + ", next", index.next(), false);
        due(name + ", previous", index.previous(), false);
        due(name + ", choose(0)", index.choose(0), false);
        due(name + ", count", index.count(0, 0, 0, 0), 0);
        index.insert(1, 2, 3);
        index.insert(1, 3, 2);
        index.insert(2, 1, 3);
        index.insert(2, 3, 1);
        index.insert(3, 1, 2);
        index.insert(3, 2, 1);
        String[] keys = {"1 2 3", "1 3 2", "2 1 3", "2 3 1", "3 1 2", "3 2 1"};
        for (String key : keys) {
            due(name + ", next", index.next(), true);
            due(name + ", key", index.told(0) + " " + index.told(1) + " " + index.told(2), key);
            for (int i = 0; i < 3; i++) {
                due(name + ", number " + i, index.told(3 + "xyz".indexOf(ORDERS[place].charAt(i))), index.told(i));
            }
        }
    }

    private static void orders() {
        int place = 0;
        for (int order = -18; order <= 18; order++) {
            orderIs(order, place);
            place = place == 5 ? 0 : place + 1;
        }
        // 2147483647 is 1 modulo 6, -2147483648 is 4.
        orderIs(MOST, 1);
        orderIs(MOST - 1, 0);
        orderIs(MOST - 2, 5);
        orderIs(LEAST, 4);
        orderIs(LEAST + 1, 5);
        orderIs(LEAST + 2, 0);
    }

    private static void insertAgain(int order) {
        says("Promise 2: \"0 when it is there already. BAD; FULL.\"");
        ByKey first = none(order);
        due("first of all", first.insert(5, 6, 7), 1);
        due("again", first.insert(5, 6, 7), 0);
        due("and again", first.insert(5, 6, 7), 0);
        due("just before", first.insert(5, 6, 6), 1);
        due("just behind", first.insert(5, 6, 8), 1);
        due("all", first.all(), "5 6 6, 5 6 7, 5 6 8");
        ByKey object = worn(order);
        due("one that went", object.insert(5, 6, 8), 1);
        due("it again", object.insert(5, 6, 8), 0);
        due("one that was cut", object.insert(4, 4, 5), 1);
        due("it again", object.insert(4, 4, 5), 0);
        due("least, there", object.insert(0, 0, 0), 0);
        due("greatest, there", object.insert(TOP, TOP, TOP), 0);
        due("BAD", object.insert(TOP + 1, TOP, TOP), BAD);
        due("BAD", object.insert(0, 0, -1), BAD);
        due("size", object.index.size(), 7);
        due("after all went", emptied(order).insert(5, 6, 7), 1);
    }

    private static void removeMissing(int order) {
        says("Promise 3: \"0 when it is not there. BAD.\"");
        due("no triples", none(order).remove(5, 6, 7), 0);
        due("all went", emptied(order).remove(5, 6, 7), 0);
        ByKey single = one(order);
        due("just before", single.remove(5, 6, 6), 0);
        due("just behind", single.remove(5, 6, 8), 0);
        due("least", single.remove(0, 0, 0), 0);
        due("greatest", single.remove(TOP, TOP, TOP), 0);
        due("BAD", single.remove(5, 6, TOP + 1), BAD);
        due("BAD", single.remove(-1, 6, 7), BAD);
        due("it stayed", single.all(), "5 6 7");
        due("it goes", single.remove(5, 6, 7), 1);
        due("it went", single.remove(5, 6, 7), 0);
        due("none is left", single.index.size(), 0);
        ByKey object = worn(order);
        due("one that went", object.remove(5, 6, 8), 0);
        due("one that was cut", object.remove(4, 4, 4), 0);
        due("none went", object.all(), WORN);
        due("the first goes", object.remove(0, 0, 0), 1);
        due("the last goes", object.remove(TOP, TOP, TOP), 1);
        due("the others stay", object.all(), "5 6 7, 5 6 9, 5 8 1");
    }

    private static void hasOrNot(int order) {
        says("Promise 4: \"1 or 0; BAD.\"");
        due("no triples", none(order).has(0, 0, 0), 0);
        due("no triples", none(order).has(TOP, TOP, TOP), 0);
        due("all went", emptied(order).has(5, 6, 8), 0);
        ByKey single = one(order);
        due("it", single.has(5, 6, 7), 1);
        int[][] others = {{5, 6, 6}, {5, 6, 8}, {5, 5, 7}, {5, 7, 7}, {4, 6, 7}, {6, 6, 7}, {0, 0, 0}, {TOP, TOP, TOP}};
        for (int[] key : others) {
            due("beside it", single.has(key[0], key[1], key[2]), 0);
        }
        due("BAD", single.has(-1, 6, 7), BAD);
        due("BAD", single.has(5, 6, TOP + 1), BAD);
        ByKey object = worn(order);
        due("least", object.has(0, 0, 0), 1);
        due("greatest", object.has(TOP, TOP, TOP), 1);
        due("one that went", object.has(5, 6, 8), 0);
        due("one that was cut", object.has(4, 4, 5), 0);
        due("BAD", object.has(0, -1, 0), BAD);
        due("none came", object.all(), WORN);
    }

    private static void beginsAlike(ByKey object, int all, int of5, int of56, int of567) {
        PageIndex index = object.index;
        due("count(0)", index.count(0, -1, TOP + 1, LEAST), all);
        due("count(1, 5)", index.count(1, 5, -1, TOP + 1), of5);
        due("count(2, 5, 6)", index.count(2, 5, 6, -1), of56);
        due("count(3, 5, 6, 7)", index.count(3, 5, 6, 7), of567);
        due("count beside 5", index.count(1, 4, 6, 7) + index.count(1, 6, 6, 7), 0);
        due("count beside 5 6", index.count(2, 5, 5, 7) + index.count(2, 5, 7, 7), 0);
        due("count beside 5 6 7", index.count(3, 5, 6, 6) + index.count(3, 5, 6, 8), 0);
    }

    private static void countNoNumbers(int order) {
        says("Promise 5: \"0 where these are no numbers of keys\"");
        ByKey[] objects = {none(order), one(order), worn(order), emptied(order)};
        for (ByKey object : objects) {
            for (int no : noNumbersLike(5)) {
                due("count(1, " + no + ")", object.index.count(1, no, 6, 7), 0);
                due("count(2, " + no + ", 6)", object.index.count(2, no, 6, 7), 0);
                due("count(3, " + no + ", 6, 7)", object.index.count(3, no, 6, 7), 0);
            }
            for (int no : noNumbersLike(6)) {
                for (int a = 3; a < 8; a++) {
                    due("count(2, " + a + ", " + no + ")", object.index.count(2, a, no, 7), 0);
                    due("count(3, " + a + ", " + no + ", 7)", object.index.count(3, a, no, 7), 0);
                }
            }
            for (int no : noNumbersLike(7)) {
                for (int b = 4; b < 9; b++) {
                    due("count(3, 5, " + b + ", " + no + ")", object.index.count(3, 5, b, no), 0);
                }
            }
        }
        beginsAlike(objects[0], 0, 0, 0, 0);
        beginsAlike(objects[1], 1, 1, 1, 1);
        beginsAlike(objects[2], 5, 3, 2, 1);
        beginsAlike(objects[3], 0, 0, 0, 0);
        due("count(1, 0)", objects[2].index.count(1, 0, 0, 0), 1);
        due("count(1, 1048575)", objects[2].index.count(1, TOP, 0, 0), 1);
        due("count(2, 1048575, 1048575)", objects[2].index.count(2, TOP, TOP, 0), 1);
        due("count(3, greatest)", objects[2].index.count(3, TOP, TOP, TOP), 1);
    }

    private static void countOtherN(int order) {
        says("Promise 5: \"BAD for another n\"");
        ByKey[] objects = {none(order), one(order), worn(order), emptied(order)};
        for (ByKey object : objects) {
            for (int n : new int[] {-1, 4, -2, 5, LEAST, MOST}) {
                due("count(" + n + ", 5, 6, 7)", object.index.count(n, 5, 6, 7), BAD);
                due("count(" + n + ", -1, -1, -1)", object.index.count(n, -1, -1, -1), BAD);
            }
        }
    }

    private static void differentNumbers(int order) {
        says("Promise 6: \"How many different numbers come behind the first n (0 .. 2)\"");
        int[][] due = {{0, 0, 0, 0}, {1, 1, 1, 0}, {3, 2, 2, 1}, {0, 0, 0, 0}};
        ByKey[] objects = {none(order), one(order), worn(order), emptied(order)};
        for (int i = 0; i < objects.length; i++) {
            PageIndex index = objects[i].index;
            due("different(0)", index.different(0, -1, TOP + 1), due[i][0]);
            due("different(1, 5)", index.different(1, 5, -1), due[i][1]);
            due("different(2, 5, 6)", index.different(2, 5, 6), due[i][2]);
            due("different(2, 5, 8)", index.different(2, 5, 8), due[i][3]);
            due("different beside 5", index.different(1, 4, 6) + index.different(1, 6, 6), 0);
            due("different beside 5 6", index.different(2, 5, 5) + index.different(2, 5, 7), 0);
            for (int no : noNumbersLike(5)) {
                due("different(1, " + no + ")", index.different(1, no, 6), 0);
                due("different(2, " + no + ", 6)", index.different(2, no, 6), 0);
            }
            for (int no : noNumbersLike(6)) {
                for (int a = 3; a < 8; a++) {
                    due("different(2, " + a + ", " + no + ")", index.different(2, a, no), 0);
                }
            }
        }
        PageIndex index = objects[2].index;
        due("different(1, 0)", index.different(1, 0, 0), 1);
        due("different(2, 0, 0)", index.different(2, 0, 0), 1);
        due("different(1, 1048575)", index.different(1, TOP, 0), 1);
        due("different(2, 1048575, 1048575)", index.different(2, TOP, TOP), 1);
    }

    private static void differentOtherN(int order) {
        says("Promise 6: \"BAD for another n\"");
        ByKey[] objects = {none(order), one(order), worn(order), emptied(order)};
        for (ByKey object : objects) {
            for (int n : new int[] {-1, 3, -2, 4, LEAST, MOST}) {
                due("different(" + n + ", 5, 6)", object.index.different(n, 5, 6), BAD);
                due("different(" + n + ", -1, -1)", object.index.different(n, -1, -1), BAD);
            }
        }
    }

    private static void rankOfNoKey(int order) {
        says("Promise 7: \"BAD when this is no key.\"");
        ByKey[] objects = {none(order), one(order), worn(order), emptied(order)};
        int[][] due = {{0, 0, 0, 0, 0}, {0, 0, 0, 1, 1}, {0, 1, 1, 2, 4}, {0, 0, 0, 0, 0}};
        for (int i = 0; i < objects.length; i++) {
            PageIndex index = objects[i].index;
            for (int no : NO_NUMBERS) {
                due("rank(" + no + ", 6, 7)", index.rank(no, 6, 7), BAD);
                due("rank(5, " + no + ", 7)", index.rank(5, no, 7), BAD);
                due("rank(5, 6, " + no + ")", index.rank(5, 6, no), BAD);
            }
            due("rank(0, 0, 0)", index.rank(0, 0, 0), due[i][0]);
            due("rank just before", index.rank(5, 6, 6), due[i][1]);
            due("rank of it", index.rank(5, 6, 7), due[i][2]);
            due("rank just behind", index.rank(5, 6, 8), due[i][3]);
            due("rank of the greatest", index.rank(TOP, TOP, TOP), due[i][4]);
        }
        due("rank just behind the least", objects[2].index.rank(0, 0, 1), 1);
        due("rank just before the greatest", objects[2].index.rank(TOP, TOP, TOP - 1), 4);
    }

    private static void chooses(ByKey object, int rank, String place) {
        due("choose(" + rank + ")", object.index.choose(rank), !place.equals(END));
        due("cursor after choose(" + rank + ")", object.cursor(), place);
    }

    private static void chooseNone(int order) {
        says("Promise 8: \"to the END when there is none such: false.\"");
        for (int rank : new int[] {0, 1, -1, LEAST, MOST}) {
            chooses(none(order), rank, END);
            chooses(emptied(order), rank, END);
            chooses(noneAtGone(order), rank, END);
        }
        for (int rank : new int[] {1, 2, -1, LEAST, MOST}) {
            chooses(one(order), rank, END);
            chooses(oneAtIt(order), rank, END);
        }
        for (int rank : new int[] {5, 6, -1, LEAST, MOST}) {
            chooses(worn(order), rank, END);
            chooses(wornAt(order, 5, 6, 7), rank, END);
        }
        chooses(one(order), 0, "5 6 7");
        chooses(worn(order), 0, "0 0 0");
        chooses(wornAt(order, 5, 6, 7), 4, "1048575 1048575 1048575");
        ByKey shrinks = worn(order);
        shrinks.remove(0, 0, 0);
        chooses(shrinks, 4, END);
        chooses(shrinks, 3, "1048575 1048575 1048575");
        chooses(shrinks, 0, "5 6 7");
    }

    private static void seeks(ByKey object, int a, int b, int c, String place) {
        String call = "seek(" + a + ", " + b + ", " + c + ")";
        due(call, object.index.seek(a, b, c), !place.equals(END));
        due("cursor after " + call, object.cursor(), place);
    }

    private static void seekNone(int order) {
        says("Promise 9: \"to the END when there is none: false.\"");
        seeks(none(order), 0, 0, 0, END);
        seeks(none(order), TOP, TOP, TOP, END);
        seeks(emptied(order), 0, 0, 0, END);
        seeks(noneAtGone(order), 0, 0, 0, END);
        seeks(noneAtGone(order), 5, 6, 7, END);
        seeks(one(order), 0, 0, 0, "5 6 7");
        seeks(one(order), 5, 6, 6, "5 6 7");
        seeks(oneAtIt(order), 5, 6, 7, "5 6 7");
        seeks(oneAtIt(order), 5, 6, 8, END);
        seeks(oneAtIt(order), 5, 7, 0, END);
        seeks(oneAtIt(order), 6, 0, 0, END);
        seeks(oneAtIt(order), TOP, TOP, TOP, END);
        seeks(worn(order), 0, 0, 0, "0 0 0");
        seeks(worn(order), 0, 0, 1, "5 6 7");
        seeks(worn(order), 5, 6, 8, "5 6 9");
        seeks(worn(order), 5, 8, 2, "1048575 1048575 1048575");
        seeks(worn(order), TOP, TOP, TOP, "1048575 1048575 1048575");
        ByKey noLast = wornAt(order, 5, 8, 1);
        noLast.remove(TOP, TOP, TOP);
        seeks(noLast, 5, 8, 1, "5 8 1");
        seeks(noLast, 5, 8, 2, END);
    }

    private static void seekBad(ByKey object, String place) {
        for (int no : NO_NUMBERS) {
            due("seek(" + no + ", 0, 0)", object.index.seek(no, 0, 0), false);
            due("seek(0, " + no + ", 0)", object.index.seek(0, no, 0), false);
            due("seek(0, 0, " + no + ")", object.index.seek(0, 0, no), false);
            due("cursor", object.cursor(), place);
        }
    }

    private static void seekBadKeys(int order) {
        says("Promise 9: \"BAD keys change nothing: false.\"");
        seekBad(none(order), END);
        seekBad(noneAtGone(order), "(5 6 7)");
        seekBad(one(order), END);
        seekBad(oneAtIt(order), "5 6 7");
        seekBad(worn(order), END);
        seekBad(wornAt(order, 5, 6, 8), "5 6 9");
        ByKey object = worn(order);
        seekBad(object, END);
        due("all", object.all(), WORN);
    }

    private static void goes(ByKey object, boolean forward, String... places) {
        for (String place : places) {
            String call = forward ? "next" : "previous";
            String from = object.cursor();
            due(call + " of " + from, forward ? object.index.next() : object.index.previous(), !place.equals(END));
            due("cursor after " + call + " of " + from, object.cursor(), place);
        }
    }

    private static void nextOfTheEnd(int order) {
        says("Promise 10: \"of the END: to the first of all\"");
        goes(one(order), true, "5 6 7");
        goes(worn(order), true, "0 0 0");
        ByKey object = worn(order);
        object.remove(0, 0, 0);
        goes(object, true, "5 6 7");
        ByKey outermost = none(order);
        outermost.insert(TOP, TOP, TOP);
        goes(outermost, true, "1048575 1048575 1048575");
        outermost.index.next();
        outermost.insert(0, 0, 0);
        goes(outermost, true, "0 0 0");
    }

    private static void nextOfTheLast(int order) {
        says("Promise 10: \"to the END when there is none: false.\"");
        goes(none(order), true, END, END);
        goes(emptied(order), true, END, END);
        goes(noneAtGone(order), true, END, END);
        goes(oneAtIt(order), true, END, "5 6 7", END);
        goes(worn(order), true, "0 0 0", "5 6 7", "5 6 9", "5 8 1", "1048575 1048575 1048575", END, "0 0 0");
        ByKey last = wornAt(order, TOP, TOP, TOP);
        last.remove(TOP, TOP, TOP);
        goes(last, true, END, "0 0 0");
        ByKey gone = wornAt(order, 5, 6, 7);
        gone.remove(5, 6, 7);
        goes(gone, true, "5 6 9");
        ByKey justBehind = noneAtGone(order);
        justBehind.insert(5, 6, 6);
        justBehind.insert(5, 6, 8);
        goes(justBehind, true, "5 6 8", END);
    }

    private static void previousOfTheEnd(int order) {
        says("Promise 11: \"of the END: to the last of all\"");
        goes(one(order), false, "5 6 7");
        goes(worn(order), false, "1048575 1048575 1048575");
        ByKey object = worn(order);
        object.remove(TOP, TOP, TOP);
        goes(object, false, "5 8 1");
        ByKey outermost = none(order);
        outermost.insert(0, 0, 0);
        goes(outermost, false, "0 0 0");
        outermost.index.previous();
        outermost.insert(TOP, TOP, TOP);
        goes(outermost, false, "1048575 1048575 1048575");
    }

    private static void previousOfTheFirst(int order) {
        says("Promise 11: \"to the END when there is none: false.\"");
        goes(none(order), false, END, END);
        goes(emptied(order), false, END, END);
        goes(noneAtGone(order), false, END, END);
        goes(oneAtIt(order), false, END, "5 6 7", END);
        goes(worn(order), false, "1048575 1048575 1048575", "5 8 1", "5 6 9", "5 6 7", "0 0 0", END,
            "1048575 1048575 1048575");
        ByKey first = wornAt(order, 0, 0, 0);
        first.remove(0, 0, 0);
        goes(first, false, END, "1048575 1048575 1048575");
        ByKey gone = wornAt(order, 5, 6, 9);
        gone.remove(5, 6, 9);
        goes(gone, false, "5 6 7");
        ByKey justBefore = noneAtGone(order);
        justBefore.insert(5, 6, 6);
        justBefore.insert(5, 6, 8);
        goes(justBefore, false, "5 6 6", END);
    }

    private static void toldAtTheEnd(int order) {
        says("Promise 12: \"BAD at the END\"");
        ByKey fallen = wornAt(order, 5, 6, 7);
        fallen.index.choose(-1);
        ByKey[] objects = {none(order), one(order), worn(order), emptied(order), fallen};
        for (ByKey object : objects) {
            for (int i = -2; i < 8; i++) {
                due("told(" + i + ")", object.index.told(i), BAD);
            }
        }
    }

    private static void toldOtherI(int order) {
        says("Promise 12: \"BAD [..] for another i\"");
        ByKey[] objects = {oneAtIt(order), noneAtGone(order), wornAt(order, 5, 6, 7)};
        for (ByKey object : objects) {
            PageIndex index = object.index;
            for (int i : new int[] {-1, 6, -2, 7, LEAST, MOST}) {
                due("told(" + i + ")", index.told(i), BAD);
            }
            due("told(0)", index.told(0), 5);
            due("told(1)", index.told(1), 6);
            due("told(2)", index.told(2), 7);
            due("told(3)", index.told(3), object.number('x', 5, 6, 7));
            due("told(4)", index.told(4), object.number('y', 5, 6, 7));
            due("told(5)", index.told(5), object.number('z', 5, 6, 7));
        }
    }

    private static void standsAtTheEnd(int order) {
        says("Promise 13: \"1 or 0; 0 at the END\"");
        due("no triples", none(order).index.stands(), 0);
        due("all went", emptied(order).index.stands(), 0);
        due("one, at the END", one(order).index.stands(), 0);
        due("some, at the END", worn(order).index.stands(), 0);
        due("at the triple", oneAtIt(order).index.stands(), 1);
        due("its triple went", noneAtGone(order).index.stands(), 0);
        ByKey again = noneAtGone(order);
        again.insert(5, 6, 6);
        again.insert(5, 6, 8);
        due("those beside it came", again.index.stands(), 0);
        again.insert(5, 6, 7);
        due("its triple came again", again.index.stands(), 1);
        again.index.cut(1, 5, 0, 0);
        due("its triple was cut", again.index.stands(), 0);
        ByKey fallen = wornAt(order, TOP, TOP, TOP);
        due("at the greatest", fallen.index.stands(), 1);
        fallen.index.next();
        due("behind the greatest", fallen.index.stands(), 0);
        fallen.index.next();
        due("at the least", fallen.index.stands(), 1);
        fallen.index.previous();
        due("before the least", fallen.index.stands(), 0);
    }

    private static void sizes(int order) {
        says("Promise 14: \"How many triples there are.\"");
        due("no triples", none(order).index.size(), 0);
        due("one", one(order).index.size(), 1);
        due("came and went", worn(order).index.size(), 5);
        due("all went", emptied(order).index.size(), 0);
        ByKey object = one(order);
        object.insert(5, 6, 7);
        due("one came twice", object.index.size(), 1);
        object.insert(5, 6, -1);
        due("one was refused", object.index.size(), 1);
        object.remove(5, 6, 8);
        due("one that is not there went", object.index.size(), 1);
        object.index.cut(4, 0, 0, 0);
        object.index.cut(1, TOP + 1, 0, 0);
        due("refused cuts", object.index.size(), 1);
        object.remove(5, 6, 7);
        due("the last went", object.index.size(), 0);
        object.remove(5, 6, 7);
        due("it went again", object.index.size(), 0);
        object.insert(0, 0, 0);
        due("another came", object.index.size(), 1);
    }

    private static void cuts(ByKey object, int n, int[] key, int due, String left) {
        String call = "cut(" + n + ", " + key[0] + ", " + key[1] + ", " + key[2] + ")";
        String place = object.cursor();
        due(call, object.index.cut(n, key[0], key[1], key[2]), due);
        due("cursor after " + call, object.cursor().replaceAll("[()]", ""), place.replaceAll("[()]", ""));
        due("size after " + call, object.index.size(), left.isEmpty() ? 0 : left.split(",").length);
        due("left after " + call, object.all(), left);
    }

    private static void cutsHowMany(int order) {
        says("Promise 15: \"All triples with keys that begin with the first n (0 .. 3) of a, b, c go: how many\"");
        int[] anything = {-1, TOP + 1, LEAST};
        int[] first = {5, -1, TOP + 1};
        int[] second = {5, 6, -1};
        int[] third = {5, 6, 7};
        int[][] beginnings = {anything, first, second, third};
        for (int n = 0; n < 4; n++) {
            cuts(none(order), n, beginnings[n], 0, "");
            cuts(emptied(order), n, beginnings[n], 0, "");
            cuts(one(order), n, beginnings[n], 1, "");
            cuts(oneAtIt(order), n, beginnings[n], 1, "");
        }
        cuts(wornAt(order, 5, 6, 9), 0, anything, 5, "");
        cuts(wornAt(order, 5, 6, 9), 1, first, 3, "0 0 0, 1048575 1048575 1048575");
        cuts(wornAt(order, 5, 6, 9), 2, second, 2, "0 0 0, 5 8 1, 1048575 1048575 1048575");
        cuts(wornAt(order, 5, 6, 9), 3, third, 1, "0 0 0, 5 6 9, 5 8 1, 1048575 1048575 1048575");
        cuts(worn(order), 3, new int[] {5, 6, 8}, 0, WORN);
        cuts(worn(order), 2, new int[] {5, 7, 1}, 0, WORN);
        cuts(worn(order), 1, new int[] {4, 4, 4}, 0, WORN);
        cuts(worn(order), 1, new int[] {0, 9, 9}, 1, "5 6 7, 5 6 9, 5 8 1, 1048575 1048575 1048575");
        cuts(worn(order), 1, new int[] {TOP, 9, 9}, 1, "0 0 0, 5 6 7, 5 6 9, 5 8 1");
        cuts(worn(order), 2, new int[] {TOP, TOP, 9}, 1, "0 0 0, 5 6 7, 5 6 9, 5 8 1");
        cuts(worn(order), 3, new int[] {TOP, TOP, TOP}, 1, "0 0 0, 5 6 7, 5 6 9, 5 8 1");
        ByKey twice = worn(order);
        twice.index.cut(2, 5, 6, 0);
        cuts(twice, 2, second, 0, "0 0 0, 5 8 1, 1048575 1048575 1048575");
    }

    private static void cutBad(int order) {
        says("Promise 15: \"BAD as for count()\"");
        for (int n : new int[] {-1, 4, -2, 5, LEAST, MOST}) {
            cuts(none(order), n, new int[] {5, 6, 7}, BAD, "");
            cuts(one(order), n, new int[] {5, 6, 7}, BAD, "5 6 7");
            cuts(wornAt(order, 5, 6, 7), n, new int[] {5, 6, 7}, BAD, WORN);
            cuts(worn(order), n, new int[] {-1, -1, -1}, BAD, WORN);
        }
    }

    private static void cutNoNumbers(int order, int n, int... key) {
        cuts(none(order), n, key, 0, "");
        cuts(one(order), n, key, 0, "5 6 7");
        cuts(oneAtIt(order), n, key, 0, "5 6 7");
        cuts(wornAt(order, 5, 6, 7), n, key, 0, WORN);
    }

    private static void cutAsCount(int order) {
        says("Promise 15: nothing goes where count() answers 0, as these are no numbers of keys");
        for (int no : noNumbersLike(5)) {
            cutNoNumbers(order, 1, no, 6, 7);
            cutNoNumbers(order, 2, no, 6, 7);
            cutNoNumbers(order, 3, no, 6, 7);
        }
        for (int no : noNumbersLike(6)) {
            for (int a = 3; a < 8; a++) {
                cutNoNumbers(order, 2, a, no, 7);
                cutNoNumbers(order, 3, a, no, 7);
            }
        }
        for (int no : noNumbersLike(7)) {
            for (int b = 4; b < 9; b++) {
                cutNoNumbers(order, 3, 5, b, no);
            }
        }
    }

    private static void terms(int order) {
        numbersReach(order);
        numbersEnd(none(order));
        numbersEnd(oneAtIt(order));
        numbersEnd(noneAtGone(order));
        numbersEnd(worn(order));
        noneTwice(order);
        cursorAtAnyKey(order);
        cursorAtFirst(order);
        cursorStays(order);
    }

    private static void promises(int order) {
        insertAgain(order);
        removeMissing(order);
        hasOrNot(order);
        countNoNumbers(order);
        countOtherN(order);
        differentNumbers(order);
        differentOtherN(order);
        rankOfNoKey(order);
        chooseNone(order);
        seekNone(order);
        seekBadKeys(order);
        nextOfTheEnd(order);
        nextOfTheLast(order);
        previousOfTheEnd(order);
        previousOfTheFirst(order);
        toldAtTheEnd(order);
        toldOtherI(order);
        standsAtTheEnd(order);
        sizes(order);
        cutsHowMany(order);
        cutBad(order);
        cutAsCount(order);
    }

    public static void main(String[] args) {
        orders();
        for (int order = 0; order < ORDERS.length; order++) {
            round = "order " + order + ": ";
            terms(order);
            promises(order);
        }
        System.out.println(wrong == 0 ? "all answers are as due" : wrong + " answers are not as due");
        if (wrong != 0) {
            System.exit(1);
        }
    }
}
