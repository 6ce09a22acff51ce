import java.util.ArrayList;
import java.util.List;
import java.util.function.Supplier;
import java.util.function.ToIntFunction;

/**
 * Every refused call, and every call that answers without a change, in every state: each is made on a new object,
 * and all that this object answers later is what its twin answers, on which the call was not made.
 */
public final class RefusedTest {
    private static final int BAD = -1;
    private static final int TOP = 1048575;
    private static final int[] NO_NUMBERS = {-1, TOP + 1, Integer.MIN_VALUE, Integer.MAX_VALUE};

    private record Call(String name, int due, ToIntFunction<PageIndex> made) { }

    private record State(String name, Supplier<PageIndex> made) { }

    private static int wrong = 0;

    private static void due(String what, Object got, Object want) {
        if (!got.equals(want)) {
            wrong++;
            System.out.println(what + " answered " + got + ", due is " + want);
        }
    }

    private static PageIndex some(int order) {
        PageIndex index = new PageIndex(order);
        for (int i = 0; i < 10; i++) {
            index.insert(i % 3, i % 4, i);
        }
        index.insert(0, 0, TOP);
        index.insert(TOP, TOP, TOP);
        index.remove(1, 0, 4);
        index.remove(2, 1, 5);
        return index;
    }

    private static PageIndex one(int order) {
        PageIndex index = new PageIndex(order);
        index.insert(0, 0, 0);
        return index;
    }

    private static PageIndex chosen(PageIndex index, int rank) {
        index.choose(rank);
        return index;
    }

    /** The cursor stays at the key of a triple that has gone. */
    private static PageIndex left(PageIndex index) {
        index.remove(index.told(3), index.told(4), index.told(5));
        return index;
    }

    private static List<State> states(int order) {
        return List.of(
            new State("no triples", () -> new PageIndex(order)),
            new State("none left, at the key that went", () -> left(chosen(one(order), 0))),
            new State("one, at the END", () -> one(order)),
            new State("one, at it", () -> chosen(one(order), 0)),
            new State("some, at the END", () -> some(order)),
            new State("some, at the first", () -> chosen(some(order), 0)),
            new State("some, at one between", () -> chosen(some(order), 4)),
            new State("some, at a key that went", () -> left(chosen(some(order), 4))),
            new State("some, at the last", () -> chosen(some(order), 9)));
    }

    private static List<Call> badNumbers() {
        List<Call> calls = new ArrayList<>();
        for (int no : NO_NUMBERS) {
            int[][] rows = {{no, 0, 0}, {0, no, 0}, {0, 0, no}, {TOP, TOP, no}, {no, no, no}};
            for (int[] row : rows) {
                int a = row[0];
                int b = row[1];
                int c = row[2];
                String name = "(" + a + ", " + b + ", " + c + ")";
                calls.add(new Call("insert" + name, BAD, index -> index.insert(a, b, c)));
                calls.add(new Call("remove" + name, BAD, index -> index.remove(a, b, c)));
                calls.add(new Call("has" + name, BAD, index -> index.has(a, b, c)));
                calls.add(new Call("rank" + name, BAD, index -> index.rank(a, b, c)));
                calls.add(new Call("seek" + name, 0, index -> index.seek(a, b, c) ? 1 : 0));
                calls.add(new Call("count 3 " + name, 0, index -> index.count(3, a, b, c)));
                calls.add(new Call("cut 3 " + name, 0, index -> index.cut(3, a, b, c)));
            }
            calls.add(new Call("cut 1 " + no, 0, index -> index.cut(1, no, 0, 0)));
            calls.add(new Call("cut 2 0 " + no, 0, index -> index.cut(2, 0, no, 0)));
            calls.add(new Call("cut 2 " + no, 0, index -> index.cut(2, no, 0, 0)));
            calls.add(new Call("different 1 " + no, 0, index -> index.different(1, no, 0)));
            calls.add(new Call("different 2 0 " + no, 0, index -> index.different(2, 0, no)));
        }
        return calls;
    }

    private static List<Call> badPlaces() {
        List<Call> calls = new ArrayList<>();
        for (int n : new int[] {-1, 4, Integer.MIN_VALUE, Integer.MAX_VALUE}) {
            calls.add(new Call("count " + n, BAD, index -> index.count(n, 0, 0, 0)));
            calls.add(new Call("cut " + n, BAD, index -> index.cut(n, 0, 0, 0)));
        }
        for (int n : new int[] {-1, 3, Integer.MIN_VALUE, Integer.MAX_VALUE}) {
            calls.add(new Call("different " + n, BAD, index -> index.different(n, 0, 0)));
        }
        for (int i : new int[] {-1, 6, Integer.MIN_VALUE, Integer.MAX_VALUE}) {
            calls.add(new Call("told " + i, BAD, index -> index.told(i)));
        }
        return calls;
    }

    /** No state has the triple 7 8 9, or a key that begins with 7. */
    private static List<Call> withoutEffect() {
        return List.of(
            new Call("remove what is not there", 0, index -> index.remove(7, 8, 9)),
            new Call("has", 0, index -> index.has(7, 8, 9)),
            new Call("count 3", 0, index -> index.count(3, 7, 8, 9)),
            new Call("cut 3 of what is not there", 0, index -> index.cut(3, 7, 8, 9)),
            new Call("cut 2 of what is not there", 0, index -> index.cut(2, 7, 8, 9)),
            new Call("different 2", 0, index -> index.different(2, 7, 8)),
            new Call("rank of the least key", 0, index -> index.rank(0, 0, 0)));
    }

    /** All that the object answers: where the cursor is, what is beside it, and every triple. */
    private static String answers(PageIndex index) {
        StringBuilder said = new StringBuilder("size " + index.size() + ", cursor");
        tell(index, said);
        said.append(", all ").append(index.count(0, 0, 0, 0)).append(", firsts ").append(index.different(0, 0, 0));
        said.append(", next ").append(index.next());
        tell(index, said);
        said.append(", previous ").append(index.previous());
        tell(index, said);
        for (int rank = 0; rank < 1000 && index.choose(rank); rank++) {
            said.append(", rank ").append(index.rank(index.told(0), index.told(1), index.told(2)));
            said.append(" has ").append(index.has(index.told(3), index.told(4), index.told(5)));
            tell(index, said);
        }
        return said.toString();
    }

    private static void tell(PageIndex index, StringBuilder said) {
        for (int i = 0; i < 6; i++) {
            said.append(' ').append(index.told(i));
        }
        said.append(" stands ").append(index.stands());
    }

    private static void refuses(int order, State state, Call call) {
        String what = "order " + order + ", " + state.name() + ": " + call.name();
        PageIndex twin = state.made().get();
        PageIndex index = state.made().get();
        due(what, call.made().applyAsInt(index), call.due());
        due(what + ", again,", call.made().applyAsInt(index), call.due());
        due(what + ": then all calls", answers(index), answers(twin));
    }

    /** What is there already answers 0 and changes nothing; the cursor tells what is there. */
    private static void insertsAgain(int order, State state) {
        PageIndex index = state.made().get();
        PageIndex twin = state.made().get();
        PageIndex guide = state.made().get();
        for (int rank = 0; rank < 1000 && guide.choose(rank); rank++) {
            String what = "order " + order + ", " + state.name() + ": insert of the one with rank " + rank;
            due(what, index.insert(guide.told(3), guide.told(4), guide.told(5)), 0);
        }
        due("order " + order + ", " + state.name() + ": after what is there came again, all calls", answers(index),
            answers(twin));
    }

    public static void main(String[] args) {
        List<Call> calls = new ArrayList<>(badNumbers());
        calls.addAll(badPlaces());
        calls.addAll(withoutEffect());
        for (int order = 0; order < 6; order++) {
            for (State state : states(order)) {
                for (Call call : calls) {
                    refuses(order, state, call);
                }
                insertsAgain(order, state);
            }
        }
        System.out.println(wrong == 0 ? "all answers are as due" : wrong + " answers are not as due");
        if (wrong != 0) {
            System.exit(1);
        }
    }
}
