import java.util.Arrays;

/**
 * Every call in every state of a small world, by the document's words alone: the eight keys whose numbers are each 0
 * or 1048575, all 256 sets of them as triples, THE CURSOR at each key and at the END, in all six orders. Each number
 * of a call is one of those two, one between them, or one just outside.
 */
public final class EveryStateTest {
    private static final int BAD = -1;
    private static final int TOP = 1048575;
    private static final int KEYS = 8;
    private static final int SETS = 1 << KEYS;
    private static final int END = -1;
    // A fault shows in thousands of states: after so many wrong answers no further state is looked at.
    private static final int ENOUGH = 200;
    private static final String[] ORDERS = {"xyz", "xzy", "yxz", "yzx", "zxy", "zyx"};

    private static int wrong = 0;

    private final int order;
    private final int set;
    private final int cursor;

    private EveryStateTest(int order, int set, int cursor) {
        this.order = order;
        this.set = set;
        this.cursor = cursor;
    }

    private static int number(int key, int place) {
        return (key >> (2 - place) & 1) * TOP;
    }

    private static boolean isIn(int set, int key) {
        return key != END && (set >> key & 1) == 1;
    }

    private static boolean isGood(int... numbers) {
        for (int number : numbers) {
            if (number < 0 || number > TOP) {
                return false;
            }
        }
        return true;
    }

    private static int keyOf(int... numbers) {
        for (int key = 0; key < KEYS; key++) {
            if (begins(key, 3, numbers)) {
                return key;
            }
        }
        return END;
    }

    private static boolean begins(int key, int n, int... numbers) {
        for (int place = 0; place < n; place++) {
            if (number(key, place) != numbers[place]) {
                return false;
            }
        }
        return true;
    }

    private static boolean isBefore(int key, int... numbers) {
        for (int place = 0; place < 3; place++) {
            if (number(key, place) != numbers[place]) {
                return number(key, place) < numbers[place];
            }
        }
        return false;
    }

    private static int beginning(int set, int n, int... numbers) {
        int found = 0;
        for (int key = 0; key < KEYS; key++) {
            found |= isIn(set, key) && begins(key, n, numbers) ? 1 << key : 0;
        }
        return found;
    }

    private static int before(int set, int... numbers) {
        int found = 0;
        for (int key = 0; key < KEYS; key++) {
            found |= isIn(set, key) && isBefore(key, numbers) ? 1 << key : 0;
        }
        return found;
    }

    private static int first(int set) {
        return set == 0 ? END : Integer.numberOfTrailingZeros(set);
    }

    private static int last(int set) {
        return set == 0 ? END : 31 - Integer.numberOfLeadingZeros(set);
    }

    private int placeOf(char name) {
        return ORDERS[order].indexOf(name);
    }

    /** The key's numbers as x, y, z, whether they are good or not. */
    private int[] triple(int... key) {
        return new int[] {key[placeOf('x')], key[placeOf('y')], key[placeOf('z')]};
    }

    private int[] tripleOf(int key) {
        return triple(number(key, 0), number(key, 1), number(key, 2));
    }

    private static void insert(PageIndex index, int[] triple) {
        index.insert(triple[0], triple[1], triple[2]);
    }

    private PageIndex made() {
        PageIndex index = new PageIndex(order);
        for (int i = 0; i < KEYS; i++) {
            int key = i * 5 % KEYS;
            if (isIn(set, key) || key == cursor) {
                insert(index, tripleOf(key));
            }
        }
        if (cursor != END) {
            index.seek(number(cursor, 0), number(cursor, 1), number(cursor, 2));
        }
        if (cursor != END && !isIn(set, cursor)) {
            int[] triple = tripleOf(cursor);
            index.remove(triple[0], triple[1], triple[2]);
        }
        return index;
    }

    private static int asInt(boolean answer) {
        return answer ? 1 : 0;
    }

    /** The words are joined only for a wrong answer: there are some hundred million right ones. */
    private void due(String call, int got, int want, int... arguments) {
        if (got != want) {
            wrong++;
            System.out.println("order " + order + ", set " + Integer.toBinaryString(set) + ", cursor " + cursor + ": "
                + call + " " + Arrays.toString(arguments) + " answered " + got + ", due is " + want);
        }
    }

    private int toldOf(int key, int i) {
        if (key == END || i < 0 || i > 5) {
            return BAD;
        }
        return number(key, i < 3 ? i : placeOf("xyz".charAt(i - 3)));
    }

    /** All of the object's state, as its calls tell it; the arguments are those of the call before. */
    private void leaves(PageIndex index, int setThen, int cursorThen, int... arguments) {
        for (int i = -1; i < 7; i++) {
            due("then told", index.told(i), toldOf(cursorThen, i), arguments);
        }
        due("then stands", index.stands(), asInt(isIn(setThen, cursorThen)), arguments);
        due("then size", index.size(), Integer.bitCount(setThen), arguments);
        for (int key = 0; key < KEYS; key++) {
            int[] triple = tripleOf(key);
            due("then has", index.has(triple[0], triple[1], triple[2]), asInt(isIn(setThen, key)), arguments);
        }
    }

    private void comes(int... key) {
        int[] triple = triple(key);
        int its = keyOf(key);
        boolean good = isGood(key);
        int there = asInt(isIn(set, its));
        PageIndex index = made();
        due("has", index.has(triple[0], triple[1], triple[2]), good ? there : BAD, key);
        due("insert", index.insert(triple[0], triple[1], triple[2]), good ? 1 - there : BAD, key);
        due("then has", index.has(triple[0], triple[1], triple[2]), good ? 1 : BAD, key);
        if (its == END) {
            due("insert, then remove", index.remove(triple[0], triple[1], triple[2]), good ? 1 : BAD, key);
        }
        leaves(index, its == END ? set : set | 1 << its, cursor, key);
    }

    private void goes(int... key) {
        int[] triple = triple(key);
        int its = keyOf(key);
        boolean there = isIn(set, its);
        PageIndex index = made();
        due("remove", index.remove(triple[0], triple[1], triple[2]), isGood(key) ? asInt(there) : BAD, key);
        leaves(index, there ? set ^ 1 << its : set, cursor, key);
    }

    private void ranksAndSeeks(int... key) {
        boolean good = isGood(key);
        int before = before(set, key);
        int found = good ? first(set ^ before) : cursor;
        PageIndex index = made();
        due("rank", index.rank(key[0], key[1], key[2]), good ? Integer.bitCount(before) : BAD, key);
        leaves(index, set, cursor, key);
        due("seek", asInt(index.seek(key[0], key[1], key[2])), asInt(good && found != END), key);
        leaves(index, set, found, key);
    }

    private void countsAndCuts(int n, int... key) {
        boolean good = n >= 0 && n <= 3;
        int part = good ? beginning(set, n, key) : 0;
        int many = good ? Integer.bitCount(part) : BAD;
        PageIndex index = made();
        due("count", index.count(n, key[0], key[1], key[2]), many, n, key[0], key[1], key[2]);
        due("cut", index.cut(n, key[0], key[1], key[2]), many, n, key[0], key[1], key[2]);
        leaves(index, set ^ part, cursor, n, key[0], key[1], key[2]);
    }

    private int differentBehind(int n, int... key) {
        if (n < 0 || n > 2) {
            return BAD;
        }
        boolean low = false;
        boolean high = false;
        for (int other = 0; other < KEYS; other++) {
            if (isIn(beginning(set, n, key), other)) {
                low |= number(other, n) == 0;
                high |= number(other, n) == TOP;
            }
        }
        return (low ? 1 : 0) + (high ? 1 : 0);
    }

    private void countsDifferent(int a, int b) {
        PageIndex index = made();
        for (int n = -1; n < 4; n++) {
            due("different", index.different(n, a, b), differentBehind(n, a, b), n, a, b);
        }
        leaves(index, set, cursor, a, b);
    }

    private void chooses() {
        int left = set;
        for (int rank = 0; rank <= KEYS; rank++) {
            int key = first(left);
            PageIndex index = made();
            due("choose", asInt(index.choose(rank)), asInt(key != END), rank);
            leaves(index, set, key, rank);
            left &= left - 1;
        }
        PageIndex index = made();
        due("choose", asInt(index.choose(-1)), 0, -1);
        leaves(index, set, END, -1);
    }

    private void steps() {
        int behind = cursor == END ? set : set & ~((2 << cursor) - 1);
        int before = cursor == END ? set : set & (1 << cursor) - 1;
        PageIndex onward = made();
        due("next", asInt(onward.next()), asInt(behind != 0));
        leaves(onward, set, first(behind));
        PageIndex backward = made();
        due("previous", asInt(backward.previous()), asInt(before != 0));
        leaves(backward, set, last(before));
    }

    private void everyCallOf(int a, int b, int c) {
        comes(a, b, c);
        goes(a, b, c);
        ranksAndSeeks(a, b, c);
        for (int n = 0; n < 4; n++) {
            countsAndCuts(n, a, b, c);
        }
    }

    private void everyCall() {
        // Both outside ones in every state would take twice the time: they take turns.
        int[] numbers = {0, 1, TOP, (set + cursor) % 2 == 0 ? TOP + 1 : -1};
        leaves(made(), set, cursor);
        chooses();
        steps();
        for (int a : numbers) {
            countsAndCuts(-1, a, a, a);
            countsAndCuts(4, a, a, a);
            for (int b : numbers) {
                countsDifferent(a, b);
                for (int c : numbers) {
                    everyCallOf(a, b, c);
                }
            }
        }
    }

    public static void main(String[] args) {
        for (int order = 0; order < ORDERS.length; order++) {
            for (int set = 0; set < SETS; set++) {
                for (int cursor = END; cursor < KEYS && wrong < ENOUGH; cursor++) {
                    new EveryStateTest(order, set, cursor).everyCall();
                }
            }
        }
        System.out.println(wrong == 0 ? "all answers are as due" : wrong + " answers are not as due");
        if (wrong != 0) {
            System.exit(1);
        }
    }
}
