import java.util.Arrays;

/**
 * Triples of numbers in one of six orders. A triple's key is held as one long, its first number
 * highest, so that the order of the longs is the order of the keys; the longs stand sorted in one row.
 */
public final class PageIndex {
    public static final int BAD = -1;
    public static final int FULL = -2;

    private static final int MOST_TRIPLES = 20000;
    private static final int FIRST_ROOM = 64;
    private static final int ORDERS = 6;
    private static final int NUMBER_BITS = 20;
    private static final int GREATEST_NUMBER = (1 << NUMBER_BITS) - 1;

    // The greatest power of two that is not above MOST_TRIPLES: a search's first step.
    private static final int FIRST_STEP = 16384;

    // No key is negative: one less than the least key, so that what lies behind the END is the first of all.
    private static final long END = -1L;

    // Three for each order: at which place of the key x, y and z stand.
    private static final int[] PLACES = {
        0, 1, 2,
        0, 2, 1,
        1, 0, 2,
        2, 0, 1,
        1, 2, 0,
        2, 1, 0
    };

    private final int placeOfX;
    private final int placeOfY;
    private final int placeOfZ;
    private long[] keys;
    private int held;
    private long cursor;

    public PageIndex(int order) {
        int row = 3 * Math.floorMod(order, ORDERS);
        placeOfX = PLACES[row];
        placeOfY = PLACES[row + 1];
        placeOfZ = PLACES[row + 2];
        keys = new long[FIRST_ROOM];
        held = 0;
        cursor = END;
    }

    public int insert(int x, int y, int z) {
        if (!areNumbers(x, y, z)) {
            return BAD;
        }
        long key = keyOfTriple(x, y, z);
        int at = keysBefore(key);
        if (isKeyAt(at, key)) {
            return 0;
        }
        if (held >= MOST_TRIPLES) {
            return FULL;
        }
        putIn(at, key);
        return 1;
    }

    public int remove(int x, int y, int z) {
        if (!areNumbers(x, y, z)) {
            return BAD;
        }
        long key = keyOfTriple(x, y, z);
        int at = keysBefore(key);
        if (!isKeyAt(at, key)) {
            return 0;
        }
        takeOut(at, at + 1);
        return 1;
    }

    public int has(int x, int y, int z) {
        if (!areNumbers(x, y, z)) {
            return BAD;
        }
        return isHeld(keyOfTriple(x, y, z)) ? 1 : 0;
    }

    public int count(int n, int a, int b, int c) {
        if (n < 0 || n > 3) {
            return BAD;
        }
        return endOf(n, a, b, c) - startOf(n, a, b, c);
    }

    public int different(int n, int a, int b) {
        if (n < 0 || n > 2) {
            return BAD;
        }
        return beginnings(startOf(n, a, b, 0), endOf(n, a, b, 0), shiftOf(n));
    }

    public int rank(int a, int b, int c) {
        if (!areNumbers(a, b, c)) {
            return BAD;
        }
        return keysBefore(keyOf(a, b, c));
    }

    public boolean choose(int rank) {
        return standAt(rank);
    }

    public boolean seek(int a, int b, int c) {
        if (!areNumbers(a, b, c)) {
            return false;
        }
        return standAt(keysBefore(keyOf(a, b, c)));
    }

    public boolean next() {
        return standAt(keysBefore(cursor + 1));
    }

    public boolean previous() {
        int behind = cursor == END ? held : keysBefore(cursor);
        return standAt(behind - 1);
    }

    public int told(int i) {
        if (cursor == END) {
            return BAD;
        }
        switch (i) {
            case 0:
            case 1:
            case 2:
                return cursorNumber(i);
            case 3:
                return cursorNumber(placeOfX);
            case 4:
                return cursorNumber(placeOfY);
            case 5:
                return cursorNumber(placeOfZ);
            default:
                return BAD;
        }
    }

    public int stands() {
        return cursor != END && isHeld(cursor) ? 1 : 0;
    }

    public int size() {
        return held;
    }

    public int cut(int n, int a, int b, int c) {
        if (n < 0 || n > 3) {
            return BAD;
        }
        int from = startOf(n, a, b, c);
        int to = endOf(n, a, b, c);
        takeOut(from, to);
        return to - from;
    }

    private static boolean isNumber(int number) {
        return number >= 0 && number <= GREATEST_NUMBER;
    }

    private static boolean areNumbers(int a, int b, int c) {
        return isNumber(a) && isNumber(b) && isNumber(c);
    }

    // What comes behind the first n is not looked at: it may be anything.
    private static boolean areFirstNumbers(int n, int a, int b, int c) {
        return (n < 1 || isNumber(a)) && (n < 2 || isNumber(b)) && (n < 3 || isNumber(c));
    }

    private static int shiftOf(int place) {
        return NUMBER_BITS * (2 - place);
    }

    private static long keyOf(int a, int b, int c) {
        return ((long) a << shiftOf(0)) | ((long) b << shiftOf(1)) | (long) c;
    }

    private long keyOfTriple(int x, int y, int z) {
        return ((long) x << shiftOf(placeOfX)) | ((long) y << shiftOf(placeOfY)) | ((long) z << shiftOf(placeOfZ));
    }

    private static long firstKey(int n, int a, int b, int c) {
        return keyOf(n < 1 ? 0 : a, n < 2 ? 0 : b, n < 3 ? 0 : c);
    }

    // How many keys, held or not, begin with the same n numbers.
    private static long keysInAll(int n) {
        return 1L << (NUMBER_BITS * (3 - n));
    }

    // Where the keys start that begin with the first n; what is no number of keys has an empty part of the row.
    private int startOf(int n, int a, int b, int c) {
        return areFirstNumbers(n, a, b, c) ? keysBefore(firstKey(n, a, b, c)) : 0;
    }

    private int endOf(int n, int a, int b, int c) {
        return areFirstNumbers(n, a, b, c) ? keysBefore(firstKey(n, a, b, c) + keysInAll(n)) : 0;
    }

    // Steps that halve end after fifteen rounds, whatever the row holds. The answer is 0 .. held, as only what is
    // not above held is taken: so it is a place in the row, or the one just behind what is held.
    private int keysBefore(long key) {
        int before = 0;
        for (int step = FIRST_STEP; step > 0; step = step / 2) {
            int tried = before + step;
            if (tried <= held && keys[tried - 1] < key) {
                before = tried;
            }
        }
        return before;
    }

    private boolean isKeyAt(int at, long key) {
        return at >= 0 && at < held && keys[at] == key;
    }

    private boolean isHeld(long key) {
        return isKeyAt(keysBefore(key), key);
    }

    private int beginnings(int from, int to, int shift) {
        int found = 0;
        long last = END;
        for (int i = from; i < to; i++) {
            long beginning = keys[i] >> shift;
            if (beginning != last) {
                found++;
                last = beginning;
            }
        }
        return found;
    }

    // Fewer than MOST_TRIPLES are held when one is put in: so a row that has no room left can be made longer.
    private void putIn(int at, long key) {
        if (held == keys.length) {
            keys = Arrays.copyOf(keys, Math.min(2 * held, MOST_TRIPLES));
        }
        System.arraycopy(keys, at, keys, at + 1, held - at);
        keys[at] = key;
        held++;
    }

    // 0 <= from <= to <= held: a part that keysBefore() told, one key that was found, or nothing.
    private void takeOut(int from, int to) {
        System.arraycopy(keys, to, keys, from, held - to);
        held -= to - from;
    }

    private boolean standAt(int at) {
        boolean there = at >= 0 && at < held;
        cursor = there ? keys[at] : END;
        return there;
    }

    private int cursorNumber(int place) {
        return (int) (cursor >> shiftOf(place)) & GREATEST_NUMBER;
    }
}
