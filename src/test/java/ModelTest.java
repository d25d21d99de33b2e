import java.util.Random;

/** Long runs of calls, drawn from fixed seeds, on LoadCouncil and on Model: each answer alike. */
public final class ModelTest {
    private static final int RUNS = 400;

    /** What an object answers behind 512 calls is free: texts end by 330 calls, the last look takes 175. */
    private static final int MOST_CALLS = 512;
    private static final int LAST_TEXT = 150;
    private static final int LAST_STEP = 325;
    private static final int[] WILD = {Integer.MIN_VALUE, Integer.MIN_VALUE + 1, -2, -1, 8, 9, 10, 11, 21, 40, 41,
        200, 255, 256, 257, Integer.MAX_VALUE};

    private final Random random;
    private final LoadCouncil x = new LoadCouncil();
    private final Model y = new Model();
    private final String run;
    private int calls = 0;

    private ModelTest(int seed) {
        random = new Random(seed);
        run = "seed " + seed + ": ";
    }

    public static void main(String[] args) {
        for (int seed = 0; seed < RUNS; seed++) {
            new ModelTest(seed).go();
        }
        Check.end();
    }

    private void go() {
        if (random.nextInt(8) > 0) {
            tell(randomText());
            lay();
        }
        while (calls < LAST_STEP) {
            step(random.nextInt(30));
        }
        everything();
        due(run + "calls are promised", calls < MOST_CALLS ? 1 : 0, 1);
    }

    private void due(String call, long got, long want) {
        calls++;
        Check.due(call, got, want);
    }

    private void tell(String text) {
        due(run + "wipe", x.wipe(), y.wipe());
        for (char letter : text.toCharArray()) {
            due(run + "write", x.write(letter), y.write(letter));
        }
        due(run + "fault of " + text, x.fault(), y.fault());
    }

    private void lay() {
        due(run + "lay", x.lay(), y.lay());
    }

    private int upTo(int most) {
        return random.nextInt(24) == 0 ? WILD[random.nextInt(WILD.length)] : random.nextInt(most);
    }

    private int aBallot() {
        return upTo(Math.max(1, y.count(1)));
    }

    private int aCandidate() {
        return upTo(y.count(0));
    }

    private int aSet() {
        return upTo(1 << y.count(0));
    }

    private int someVoters() {
        return random.nextInt(4) == 0 ? upTo(22) : 1 + upTo(4);
    }

    private void step(int kind) {
        int b = aBallot();
        int c = aCandidate();
        int set = aSet();
        int v = someVoters();
        int law = upTo(4);
        int what = upTo(7);
        int part = upTo(2);
        String call = run + "call " + kind + " of " + b + " " + c + " " + set + " " + v + " " + law + " " + what;
        switch (kind) {
            case 0 -> due(call, x.write(what), y.write(what));
            case 1 -> due(call, x.fault(), y.fault());
            case 2 -> stepOfText();
            case 3, 4, 5 -> due(call, x.ballot(v, set), y.ballot(v, set));
            case 6 -> due(call, x.voters(b, v), y.voters(b, v));
            case 7 -> due(call, x.approve(b, set), y.approve(b, set));
            case 8 -> due(call, x.seats(what), y.seats(what));
            case 9 -> due(call, x.withdraw(c, part), y.withdraw(c, part));
            case 10, 11 -> due(call, x.prefer(c), y.prefer(c));
            case 12, 13 -> due(call, x.undo(), y.undo());
            default -> ask(call, kind, new int[] {b, c, set, law, what, part});
        }
    }

    private void stepOfText() {
        if (calls < LAST_TEXT && random.nextInt(3) > 0) {
            tell(randomText());
        }
        if (random.nextInt(3) == 0) {
            lay();
        }
    }

    private void ask(String call, int kind, int[] of) {
        int b = of[0];
        int c = of[1];
        int set = of[2];
        int law = of[3];
        int what = of[4];
        int part = of[5];
        int i = upTo(8) - 1;
        switch (kind) {
            case 14 -> due(call, x.candidate(c, what), y.candidate(c, what));
            case 15 -> due(call, x.vote(b, what), y.vote(b, what));
            case 16 -> due(call, x.member(law, i), y.member(law, i));
            case 17 -> due(call, x.members(law), y.members(law));
            case 18, 19 -> due(call, x.came(law, i, part), y.came(law, i, part));
            case 20 -> due(call, x.load(b, part), y.load(b, part));
            case 21 -> due(call, x.greatest(part), y.greatest(part));
            case 22 -> due(call, x.agrees(set, what), y.agrees(set, what));
            case 23 -> due(call, x.shorts(law, i), y.shorts(law, i));
            case 24 -> due(call, x.joins(law, c), y.joins(law, c));
            case 25 -> due(call, x.matters(law), y.matters(law));
            case 26 -> due(call, x.rather(law, b, part), y.rather(law, b, part));
            case 27 -> due(call, x.decided(law), y.decided(law));
            case 28 -> due(call, x.both(law, what), y.both(law, what));
            default -> due(call, x.count(what), y.count(what));
        }
    }

    /** All that is cheap to ask, so that no change goes unseen. */
    private void everything() {
        for (int law = 0; law < 4; law++) {
            for (int i = 0; i < 8; i++) {
                due(run + "member", x.member(law, i), y.member(law, i));
                due(run + "came above", x.came(law, i, 0), y.came(law, i, 0));
                due(run + "came below", x.came(law, i, 1), y.came(law, i, 1));
            }
            due(run + "shorts", x.shorts(law, -1), y.shorts(law, -1));
            due(run + "matters", x.matters(law), y.matters(law));
            due(run + "decided", x.decided(law), y.decided(law));
            due(run + "joins", x.joins(law, 0), y.joins(law, 0));
        }
        for (int what = 0; what < 7; what++) {
            due(run + "count", x.count(what), y.count(what));
        }
        for (int part = 0; part < 2; part++) {
            for (int c = 0; c < 8; c++) {
                due(run + "candidate", x.candidate(c, part + 1), y.candidate(c, part + 1));
            }
            for (int b = 0; b < 10; b++) {
                due(run + "vote", x.vote(b, part), y.vote(b, part));
                due(run + "load", x.load(b, part), y.load(b, part));
            }
        }
    }

    private String randomText() {
        int n = random.nextInt(3) == 0 ? 8 : 1 + random.nextInt(8);
        StringBuilder text = new StringBuilder("n").append(n).append(';');
        int items = random.nextInt(13);
        boolean small = random.nextInt(4) > 0;
        for (int i = 0; i < items; i++) {
            int kind = random.nextInt(10);
            if (kind == 0) {
                text.append('k').append(1 + random.nextInt(8)).append(';');
            } else if (kind == 1) {
                text.append('o').append(shuffled("abcdefgh".substring(0, n))).append(';');
            } else {
                int v = 1 + random.nextInt(small ? 4 : 20);
                text.append('b').append(v).append(',').append(someLetters(n)).append(';');
            }
        }
        if (random.nextInt(4) == 0) {
            spoil(text);
        }
        return text.toString();
    }

    private void spoil(StringBuilder text) {
        String letters = "nbko;,abch0123489 ~A";
        int place = random.nextInt(text.length());
        char letter = letters.charAt(random.nextInt(letters.length()));
        switch (random.nextInt(3)) {
            case 0 -> text.setCharAt(place, letter);
            case 1 -> text.insert(place, letter);
            default -> text.deleteCharAt(place);
        }
    }

    private String someLetters(int n) {
        StringBuilder letters = new StringBuilder();
        int must = random.nextInt(n);
        for (int c = 0; c < n; c++) {
            if (c == must || random.nextInt(3) == 0) {
                letters.append((char) ('a' + c));
            }
        }
        return letters.toString();
    }

    private String shuffled(String letters) {
        StringBuilder rest = new StringBuilder(letters);
        StringBuilder row = new StringBuilder();
        while (rest.length() > 0) {
            int i = random.nextInt(rest.length());
            row.append(rest.charAt(i));
            rest.deleteCharAt(i);
        }
        return row.toString();
    }
}
