import java.util.ArrayList;
import java.util.List;

/**
 * "BAD: a number is none that is told": each number of each call, at both ends of what it may be and beyond
 * them, far beyond too, where bits or sums would wrap round; and nothing has changed behind a BAD one.
 */
public final class NumbersTest {
    private static final int BAD = LoadCouncil.BAD;
    private static final int MAX = Integer.MAX_VALUE;
    private static final int MIN = Integer.MIN_VALUE;

    /** Six changes that no council of two candidates at least refuses, so that all 6 can be undone. */
    private static final String[] CHANGES = {"prefer(1)", "withdraw(0, 1)", "seats(8)", "seats(2)", "prefer(0)",
        "withdraw(0, 0)"};

    private record Span(int least, int most) {
        /** Neighbours first; then the same low bits with others above them, and the far ends. */
        List<Integer> outside() {
            List<Integer> row = new ArrayList<>();
            long[] tried = {least - 1L, most + 1L, most + 2L, -2, -3, -4, least + 32L, most + 32L, least + 256L,
                most + 256L, least + 65536L, MIN, MIN + 1L, MIN + (long) least, MIN + (long) most, MAX, MAX - 1L};
            for (long value : tried) {
                if (value >= MIN && value <= MAX && (value < least || value > most) && !row.contains((int) value)) {
                    row.add((int) value);
                }
            }
            return row;
        }
    }

    private record Call(String name, Span... spans) {
        String with(int... values) {
            StringBuilder text = new StringBuilder(name).append('(');
            for (int i = 0; i < values.length; i++) {
                text.append(i == 0 ? "" : ", ").append(values[i]);
            }
            return text.append(')').toString();
        }

        /** Bit i of ends tells whether the i-th number stands at the upper end. */
        int[] corner(int ends) {
            int[] values = new int[spans.length];
            for (int i = 0; i < values.length; i++) {
                values[i] = (ends >> i & 1) == 1 ? spans[i].most() : spans[i].least();
            }
            return values;
        }
    }

    public static void main(String[] args) {
        every(Told.fresh(), 6, 6);
        every(Told.laid("n1;b1,a;"), 1, 1);
        Told full = Told.laid("n8;" + "b4,ah;".repeat(10));
        for (String change : CHANGES) {
            full.answer(change);
        }
        every(full.due("count(5)", 6), 8, 10);
        ballotsOfNone();
        Check.end();
    }

    private static List<Call> calls(int candidates, int ballots) {
        Span c = new Span(0, candidates - 1);
        Span b = new Span(0, ballots - 1);
        Span set = new Span(1, (1 << candidates) - 1);
        Span v = new Span(1, 20);
        Span law = new Span(0, 3);
        Span part = new Span(0, 1);
        Span what = new Span(0, 5);
        return List.of(new Call("write", new Span(32, 126)), new Call("ballot", v, set), new Call("voters", b, v),
            new Call("approve", b, set), new Call("seats", new Span(1, 8)), new Call("withdraw", c, part),
            new Call("prefer", c), new Call("candidate", c, new Span(0, 3)), new Call("vote", b, what),
            new Call("member", law, new Span(-1, MAX)), new Call("members", law),
            new Call("came", law, new Span(0, MAX), part), new Call("load", b, part), new Call("greatest", part),
            new Call("agrees", set, what), new Call("shorts", law, new Span(-1, MAX)), new Call("joins", law, c),
            new Call("matters", law), new Call("rather", law, b, part), new Call("decided", law),
            new Call("both", law, law), new Call("count", new Span(0, 6)));
    }

    private static void every(Told told, int candidates, int ballots) {
        for (Call call : calls(candidates, ballots)) {
            for (int ends = 0; ends < 1 << call.spans().length; ends++) {
                inside(told, call, call.corner(ends));
                for (int i = 0; i < call.spans().length; i++) {
                    beyond(told, call, call.corner(ends), i);
                }
            }
        }
    }

    private static void inside(Told told, Call call, int[] values) {
        String text = call.with(values);
        Check.due(text + " is not BAD", told.again().answer(text) == BAD ? 1 : 0, 0);
    }

    private static void beyond(Told told, Call call, int[] values, int i) {
        for (int value : call.spans()[i].outside()) {
            int[] others = values.clone();
            others[i] = value;
            told.again().keeps(call.with(others), BAD);
        }
    }

    /** Without BALLOTS there is no number of one. */
    private static void ballotsOfNone() {
        int[] numbers = {MIN, -1, 0, 1, 9, 10, MAX};
        for (int b : numbers) {
            Told.laid("n2;").keeps("voters(" + b + ", 1)", BAD).keeps("approve(" + b + ", 1)", BAD)
                .keeps("vote(" + b + ", 0)", BAD).keeps("load(" + b + ", 0)", BAD)
                .keeps("rather(0, " + b + ", 0)", BAD);
        }
    }
}
