import java.util.Random;

/**
 * "An object is used for at most 512 calls after it has been made; what later calls answer is free."
 * So all 512 are answered as due, and what is free still has an answer: no call throws.
 */
public final class CallsTest {
    private static final int CALLS = 512;
    private static final int TOP = 1048575;

    private static int wrong = 0;

    private static void due(String what, Object got, Object want) {
        if (!got.equals(want)) {
            wrong++;
            System.out.println(what + " answered " + got + ", due is " + want);
        }
    }

    /** Each of the 512 calls brings a triple: no object can hold more while its answers are promised. */
    private static void allCome(int order) {
        PageIndex index = new PageIndex(order);
        for (int call = 1; call <= CALLS; call++) {
            due("order " + order + ", insert as call " + call, index.insert(call, TOP - call, call * 31 % 64), 1);
        }
    }

    private static PageIndex come(int order, int calls) {
        PageIndex index = new PageIndex(order);
        for (int call = 1; call <= calls; call++) {
            index.insert(call, call, call);
        }
        return index;
    }

    private static void lastCall(int order) {
        String what = "order " + order + ", call 512: ";
        int come = CALLS - 1;
        due(what + "size", come(order, come).size(), come);
        due(what + "insert of one that is there", come(order, come).insert(come, come, come), 0);
        due(what + "insert of another", come(order, come).insert(0, 0, 0), 1);
        due(what + "insert of no triple", come(order, come).insert(TOP + 1, 0, 0), PageIndex.BAD);
        due(what + "remove", come(order, come).remove(come, come, come), 1);
        due(what + "remove of none", come(order, come).remove(0, 0, 0), 0);
        due(what + "has", come(order, come).has(1, 1, 1), 1);
        due(what + "count", come(order, come).count(0, 0, 0, 0), come);
        due(what + "different", come(order, come).different(0, 0, 0), come);
        due(what + "rank", come(order, come).rank(TOP, TOP, TOP), come);
        due(what + "choose the last", come(order, come).choose(come - 1), true);
        due(what + "choose one more", come(order, come).choose(come), false);
        due(what + "seek the last", come(order, come).seek(come, come, come), true);
        due(what + "seek behind the last", come(order, come).seek(come, come, come + 1), false);
        due(what + "next", come(order, come).next(), true);
        due(what + "previous", come(order, come).previous(), true);
        due(what + "told", come(order, come).told(0), PageIndex.BAD);
        due(what + "stands", come(order, come).stands(), 0);
        due(what + "cut", come(order, come).cut(0, 0, 0, 0), come);
    }

    private static void goesThrough(int order) {
        int come = 255;
        PageIndex index = come(order, come);
        for (int call = 1; call <= come; call++) {
            due("order " + order + ", next " + call, index.next(), true);
        }
        due("order " + order + ", told of the last as call 511", index.told(0), come);
        due("order " + order + ", next of the last as call 512", index.next(), false);
    }

    private static void comesAndGoes(int order) {
        PageIndex index = new PageIndex(order);
        for (int pair = 1; pair <= CALLS / 2; pair++) {
            due("order " + order + ", insert " + pair, index.insert(1, 2, 3), 1);
            due("order " + order + ", remove " + pair, index.remove(1, 2, 3), 1);
        }
    }

    private static void nothingThere(int order) {
        PageIndex forward = new PageIndex(order);
        PageIndex backward = new PageIndex(order);
        for (int call = 1; call <= CALLS; call++) {
            due("order " + order + ", next of none as call " + call, forward.next(), false);
            due("order " + order + ", previous of none as call " + call, backward.previous(), false);
        }
    }

    private static int number(Random random) {
        switch (random.nextInt(6)) {
            case 0:
                return random.nextInt();
            case 1:
                return TOP + random.nextInt(2);
            case 2:
                return random.nextInt(6) - 1;
            default:
                return random.nextInt(TOP + 1);
        }
    }

    /** All are never cut here, so that the triples reach their limit. */
    private static void anyCall(PageIndex index, Random random) {
        int a = number(random);
        int b = number(random);
        int c = number(random);
        int n = random.nextInt(7) - 1;
        switch (random.nextInt(24)) {
            case 0 -> index.remove(a, b, c);
            case 1 -> index.has(a, b, c);
            case 2 -> index.count(n, a, b, c);
            case 3 -> index.different(n, a, b);
            case 4 -> index.rank(a, b, c);
            case 5 -> index.choose(a);
            case 6 -> index.seek(a, b, c);
            case 7 -> index.next();
            case 8 -> index.previous();
            case 9 -> index.told(n);
            case 10 -> index.stands();
            case 11 -> index.size();
            case 12 -> index.cut(n == 0 ? 3 : n, a, b, c);
            default -> index.insert(a, b, c);
        }
    }

    /** Far more calls than are promised, to the limit of triples and back, twice: their answers are not looked at. */
    private static void laterCalls(int order) {
        Random random = new Random(order);
        PageIndex index = new PageIndex(order);
        for (int round = 0; round < 2; round++) {
            for (int call = 0; call < 200_000; call++) {
                anyCall(index, random);
            }
            index.cut(0, 0, 0, 0);
        }
    }

    public static void main(String[] args) {
        for (int order = 0; order < 6; order++) {
            allCome(order);
            lastCall(order);
            goesThrough(order);
            comesAndGoes(order);
            nothingThere(order);
            laterCalls(order);
        }
        System.out.println(wrong == 0 ? "all answers are as due" : wrong + " answers are not as due");
        if (wrong != 0) {
            System.exit(1);
        }
    }
}
