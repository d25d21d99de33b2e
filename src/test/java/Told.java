import java.lang.reflect.Method;
import java.util.ArrayList;
import java.util.HashMap;
import java.util.List;
import java.util.Map;

/**
 * A LoadCouncil whose calls are written as in the document, "voters(0, 21)". It remembers what it was told,
 * so that another object can be told the same and the two be held against each other.
 */
final class Told {
    /** What later calls answer is free, so that no test may ask for it. */
    private static final int MOST_CALLS = 512;
    private static final List<String> TELLING = List.of(
        "write", "wipe", "lay", "ballot", "voters", "approve", "seats", "withdraw", "prefer", "undo");
    private static final Map<String, Method> FACE = face();

    private final LoadCouncil x = new LoadCouncil();
    private final List<String> story = new ArrayList<>();
    private final String name;
    private int calls = 0;

    private Told(String name) {
        this.name = name;
    }

    private static Map<String, Method> face() {
        Map<String, Method> face = new HashMap<>();
        for (Method m : LoadCouncil.class.getDeclaredMethods()) {
            face.put(m.getName(), m);
        }
        return face;
    }

    static Told fresh() {
        return new Told("new object");
    }

    static Told written(String text) {
        Told told = new Told("'" + text + "'");
        told.write(text);
        return told;
    }

    static Told laid(String text) {
        return written(text).due("lay()", text.charAt(1) - '0');
    }

    /** One object more that was told the same. */
    Told again() {
        Told other = new Told(name);
        for (String call : story) {
            other.answer(call);
        }
        return other;
    }

    Told write(String text) {
        for (char letter : text.toCharArray()) {
            answer("write(" + (int) letter + ")");
        }
        return this;
    }

    Told due(String call, long want) {
        Check.due(name + " " + changes() + " " + call, answer(call), want);
        return this;
    }

    /** The call is answered so, and nothing is changed behind it: for refused calls, and for questions. */
    Told keeps(String call, long want) {
        Told asked = again().due(call, want);
        boolean same = asked.look().equals(again().look());
        Check.due(name + " " + changes() + " " + call + " keeps all", same ? 1 : 0, 1);
        return due(call, want);
    }

    Told rank(int... want) {
        for (int place = 0; place < want.length; place++) {
            due("candidate(" + want[place] + ", 1)", place);
        }
        return this;
    }

    /** All MEMBERS by a LAW, in their order. */
    Told row(int law, int... want) {
        for (int i = 0; i < want.length; i++) {
            due("member(" + law + ", " + i + ")", want[i]);
        }
        return due("member(" + law + ", -1)", want.length);
    }

    Told rows(int... want) {
        for (int law = 0; law < 4; law++) {
            row(law, want);
        }
        return this;
    }

    Told came(int law, int i, long above, long below) {
        String call = "came(" + law + ", " + i + ", ";
        return due(call + "0)", above).due(call + "1)", below);
    }

    Told load(int b, long above, long below) {
        return due("load(" + b + ", 0)", above).due("load(" + b + ", 1)", below);
    }

    Told greatest(long above, long below) {
        return due("greatest(0)", above).due("greatest(1)", below);
    }

    long answer(String call) {
        int open = call.indexOf('(');
        String of = call.substring(0, open);
        String inside = call.substring(open + 1, call.length() - 1);
        String[] numbers = inside.isEmpty() ? new String[0] : inside.split(", ");
        Object[] values = new Object[numbers.length];
        for (int i = 0; i < numbers.length; i++) {
            values[i] = Integer.valueOf(numbers[i]);
        }
        long answer = invoke(of, values);
        if (TELLING.contains(of) && answer >= 0) {
            story.add(call);
        }
        return answer;
    }

    private long invoke(String of, Object... values) {
        calls++;
        if (calls > MOST_CALLS) {
            throw new IllegalStateException(name + ": more calls than are promised");
        }
        try {
            return ((Number) FACE.get(of).invoke(x, values)).longValue();
        } catch (ReflectiveOperationException thrown) {
            throw new IllegalStateException(name + " " + changes() + " " + of, thrown);
        }
    }

    private String changes() {
        StringBuilder row = new StringBuilder();
        for (String call : story) {
            if (!call.startsWith("write") && !call.startsWith("lay")) {
                row.append(call).append(' ');
            }
        }
        return row.toString();
    }

    /** What can be seen: as it stands, behind each undo, and as THE TEXT tells it. */
    private List<Long> look() {
        List<Long> seen = new ArrayList<>();
        see(seen);
        while (see(seen, "undo") >= 0) {
            see(seen);
        }
        see(seen, "lay");
        see(seen);
        return seen;
    }

    private void see(List<Long> seen) {
        for (int what = 0; what < 7; what++) {
            see(seen, "count", what);
        }
        see(seen, "fault");
        for (int law = 0; law < 4; law++) {
            see(seen, "members", law);
        }
        int candidates = seen.get(seen.size() - 12).intValue();
        int ballots = seen.get(seen.size() - 11).intValue();
        for (int c = 0; c < candidates; c++) {
            see(seen, "candidate", c, 1);
            see(seen, "candidate", c, 2);
        }
        for (int b = 0; b < ballots; b++) {
            see(seen, "vote", b, 0);
            see(seen, "vote", b, 1);
        }
    }

    private long see(List<Long> seen, String of, Object... values) {
        long answer = invoke(of, values);
        seen.add(answer);
        return answer;
    }
}
