import java.util.ArrayList;
import java.util.Collections;
import java.util.List;
import java.util.regex.Matcher;
import java.util.regex.Pattern;

/**
 * The document once more, by other means: true fractions, voters' money by the clock, regular
 * expressions for texts, lists for all rows. ModelTest holds LoadCouncil against it.
 */
final class Model {
    private static final int BAD = -1, NO = -2, FULL = -3, NONE = -4;
    private static final Pattern ITEM = Pattern.compile(
        "n(?<n>[0-9]{1,2});|b(?<v>[0-9]{1,2}),(?<s>[a-h]+);|k(?<k>[0-9]{1,2});|o(?<o>[a-h]+);");

    private record Ballot(int voters, int set) {
    }

    private record State(int n, List<Ballot> ballots, int seats, List<Integer> rank, int withdrawn) {
        int all() {
            return ballots.stream().mapToInt(Ballot::voters).sum();
        }

        State withBallots(List<Ballot> other) {
            return new State(n, other, seats, rank, withdrawn);
        }

        State withBallot(int b, Ballot other) {
            List<Ballot> row = new ArrayList<>(ballots);
            if (b == row.size()) {
                row.add(other);
            } else {
                row.set(b, other);
            }
            row.removeIf(x -> x.voters() == 0);
            return withBallots(row);
        }

        State withRank(List<Integer> other) {
            return new State(n, ballots, seats, other, withdrawn);
        }
    }

    /** One member and what it came by (null: nothing). */
    private record Seat(int who, Fraction by) {
    }

    private State now = read(parse("n6;b9,ab;b6,abc;b5,cd;b4,de;b3,f;b2,ef;k4;"));
    private final List<State> past = new ArrayList<>();
    private String text = "";

    // ---- texts

    private record Parsed(int fault, List<Matcher> items) {
    }

    private static Parsed parse(String text) {
        List<Matcher> items = new ArrayList<>();
        int place = 0;
        int n = 0;
        int ballots = 0;
        int all = 0;
        while (place < text.length()) {
            Matcher m = ITEM.matcher(text).region(place, text.length());
            if (!m.lookingAt() || (m.group("n") == null) == (place == 0)) {
                return new Parsed(place, items);
            }
            boolean good;
            if (m.group("n") != null) {
                n = Integer.parseInt(m.group("n"));
                good = n >= 1 && n <= 8;
            } else if (m.group("v") != null) {
                int v = Integer.parseInt(m.group("v"));
                all += v;
                ballots++;
                good = v >= 1 && v <= 20 && all <= 40 && ballots <= 10 && sortedOnce(m.group("s"), n)
                    && sorted(m.group("s")).equals(m.group("s"));
            } else if (m.group("k") != null) {
                int k = Integer.parseInt(m.group("k"));
                good = k >= 1 && k <= 8;
            } else {
                good = sorted(m.group("o")).equals("abcdefgh".substring(0, n));
            }
            if (!good) {
                return new Parsed(place, items);
            }
            items.add(m);
            place = m.end();
        }
        return new Parsed(NONE, items);
    }

    private static String sorted(String letters) {
        char[] row = letters.toCharArray();
        java.util.Arrays.sort(row);
        return new String(row);
    }

    private static boolean sortedOnce(String letters, int n) {
        return letters.chars().distinct().count() == letters.length() && letters.chars().allMatch(c -> c < 'a' + n);
    }

    private static State read(Parsed parsed) {
        int n = 0;
        int seats = 3;
        List<Ballot> ballots = new ArrayList<>();
        List<Integer> rank = new ArrayList<>();
        for (Matcher m : parsed.items()) {
            if (m.group("n") != null) {
                n = Integer.parseInt(m.group("n"));
                for (int c = 0; c < n; c++) {
                    rank.add(c);
                }
            } else if (m.group("v") != null) {
                int set = m.group("s").chars().map(c -> 1 << c - 'a').sum();
                ballots.add(new Ballot(Integer.parseInt(m.group("v")), set));
            } else if (m.group("k") != null) {
                seats = Integer.parseInt(m.group("k"));
            } else {
                rank.clear();
                m.group("o").chars().forEach(c -> rank.add(c - 'a'));
            }
        }
        return new State(n, ballots, seats, rank, 0);
    }

    int write(int letter) {
        if (letter < 32 || letter > 126) {
            return BAD;
        }
        if (text.length() == 200) {
            return FULL;
        }
        text += (char) letter;
        return text.length();
    }

    int wipe() {
        int was = text.length();
        text = "";
        return was;
    }

    int fault() {
        return parse(text).fault();
    }

    int lay() {
        Parsed parsed = parse(text);
        if (parsed.fault() != NONE || text.isEmpty()) {
            return NO;
        }
        now = read(parsed);
        past.clear();
        return now.n();
    }

    // ---- changes

    private void become(State next) {
        past.add(now);
        if (past.size() > 6) {
            past.remove(0);
        }
        now = next;
    }

    private boolean ballotIsNot(int b) {
        return b < 0 || b >= now.ballots().size();
    }

    private boolean candidateIsNot(int c) {
        return c < 0 || c >= now.n();
    }

    private boolean setIsNot(int set) {
        return set <= 0 || set > (1 << now.n()) - 1;
    }

    private static boolean lawIsNot(int law) {
        return law < 0 || law > 3;
    }

    int ballot(int v, int set) {
        if (v < 1 || v > 20 || setIsNot(set)) {
            return BAD;
        }
        if (now.ballots().size() == 10 || now.all() + v > 40) {
            return FULL;
        }
        become(now.withBallot(now.ballots().size(), new Ballot(v, set)));
        return now.ballots().size() - 1;
    }

    int voters(int b, int v) {
        if (ballotIsNot(b) || v < 1 || v > 20) {
            return BAD;
        }
        Ballot was = now.ballots().get(b);
        State next = now.withBallot(b, new Ballot(v, was.set()));
        if (v == was.voters()) {
            return NO;
        }
        if (next.all() > 40) {
            return FULL;
        }
        become(next);
        return was.voters();
    }

    int approve(int b, int set) {
        if (ballotIsNot(b) || setIsNot(set)) {
            return BAD;
        }
        Ballot was = now.ballots().get(b);
        if (set == was.set()) {
            return NO;
        }
        become(now.withBallot(b, new Ballot(was.voters(), set)));
        return was.set();
    }

    int seats(int k) {
        if (k < 1 || k > 8) {
            return BAD;
        }
        int was = now.seats();
        if (k == was) {
            return NO;
        }
        become(new State(now.n(), now.ballots(), k, now.rank(), now.withdrawn()));
        return was;
    }

    int withdraw(int c, int is) {
        if (candidateIsNot(c) || is != 0 && is != 1) {
            return BAD;
        }
        if ((now.withdrawn() >> c & 1) == is) {
            return NO;
        }
        int next = is == 1 ? now.withdrawn() | 1 << c : now.withdrawn() & ~(1 << c);
        become(new State(now.n(), now.ballots(), now.seats(), now.rank(), next));
        return Integer.bitCount(next);
    }

    int prefer(int c) {
        if (candidateIsNot(c)) {
            return BAD;
        }
        int place = now.rank().indexOf(c);
        if (place == 0) {
            return NO;
        }
        List<Integer> rank = new ArrayList<>(now.rank());
        rank.remove(place);
        rank.add(0, c);
        become(now.withRank(rank));
        return place;
    }

    int undo() {
        if (past.isEmpty()) {
            return NO;
        }
        now = past.remove(past.size() - 1);
        return past.size();
    }

    // ---- elections

    private static int support(State s, int c) {
        return s.ballots().stream().filter(b -> (b.set() >> c & 1) == 1).mapToInt(Ballot::voters).sum();
    }

    private static final Fraction ZERO = Fraction.of(0, 1);
    private static final Fraction ONE = Fraction.of(1, 1);

    /** For each ballot: the load of each voter (LOADS), or the money it has (BUYING). */
    private static List<Seat> elect(State s, int law, Fraction[] each) {
        java.util.Arrays.fill(each, ZERO);
        List<Integer> open = new ArrayList<>(s.rank());
        open.removeIf(c -> (s.withdrawn() >> c & 1) == 1);
        List<Integer> bare = new ArrayList<>(open);
        bare.removeIf(c -> support(s, c) > 0);
        open.removeAll(bare);
        List<Seat> seats = new ArrayList<>();
        Fraction time = ZERO;
        int elected = 0;
        while (seats.size() < s.seats() && !open.isEmpty()) {
            int best = -1;
            Fraction bestBy = null;
            for (int c : open) {
                Fraction by = measure(s, law, c, each, elected);
                boolean less = law == 0 || law == 3;
                if (best < 0 || (less ? by.compareTo(bestBy) < 0 : by.compareTo(bestBy) > 0)) {
                    best = c;
                    bestBy = by;
                }
            }
            if (law == 3) {
                time = time.plus(bestBy);
            }
            settle(s, law, best, bestBy, each);
            seats.add(new Seat(best, law == 3 ? time : bestBy));
            elected |= 1 << best;
            open.remove((Integer) best);
        }
        while (seats.size() < s.seats() && !bare.isEmpty()) {
            seats.add(new Seat(bare.remove(0), null));
        }
        return seats;
    }

    /** NEW LOAD; SUPPORT; WEIGHT; or how long it still takes till its voters have 1 together. */
    private static Fraction measure(State s, int law, int c, Fraction[] each, int elected) {
        Fraction sum = ZERO;
        for (int b = 0; b < s.ballots().size(); b++) {
            Ballot ballot = s.ballots().get(b);
            if ((ballot.set() >> c & 1) == 1) {
                Fraction one = law == 1 ? ONE
                    : law == 2 ? Fraction.of(1, 1 + Integer.bitCount(ballot.set() & elected)) : each[b];
                sum = sum.plus(one.times(ballot.voters()));
            }
        }
        if (law == 0) {
            return ONE.plus(sum).by(support(s, c));
        }
        return law == 3 ? ONE.minus(sum).by(support(s, c)) : sum;
    }

    private static void settle(State s, int law, int c, Fraction by, Fraction[] each) {
        for (int b = 0; b < s.ballots().size(); b++) {
            boolean its = (s.ballots().get(b).set() >> c & 1) == 1;
            if (law == 0 && its) {
                each[b] = by;
            }
            if (law == 3) {
                each[b] = its ? ZERO : each[b].plus(by);
            }
        }
    }

    private static List<Seat> elect(State s, int law) {
        return elect(s, law, new Fraction[11]);
    }

    private static int bits(State s, int law) {
        return elect(s, law).stream().mapToInt(x -> 1 << x.who()).sum();
    }

    // ---- what there is

    int candidate(int c, int what) {
        if (candidateIsNot(c) || what < 0 || what > 3) {
            return BAD;
        }
        int laws = 0;
        for (int law = 0; law < 4; law++) {
            laws += (bits(now, law) >> c & 1) << law;
        }
        int[] answers = {support(now, c), now.rank().indexOf(c), now.withdrawn() >> c & 1, laws};
        return answers[what];
    }

    int vote(int b, int what) {
        if (ballotIsNot(b) || what < 0 || what > 5) {
            return BAD;
        }
        Ballot ballot = now.ballots().get(b);
        return what == 0 ? ballot.voters() : what == 1 ? ballot.set()
            : Integer.bitCount(ballot.set() & bits(now, what - 2));
    }

    int member(int law, int i) {
        if (lawIsNot(law) || i < -1) {
            return BAD;
        }
        List<Seat> seats = elect(now, law);
        return i == -1 ? seats.size() : i < seats.size() ? seats.get(i).who() : NONE;
    }

    int members(int law) {
        return lawIsNot(law) ? BAD : bits(now, law);
    }

    long came(int law, int i, int part) {
        if (lawIsNot(law) || i < 0 || part < 0 || part > 1) {
            return BAD;
        }
        List<Seat> seats = elect(now, law);
        return i < seats.size() && seats.get(i).by() != null ? seats.get(i).by().part(part) : NONE;
    }

    long load(int b, int part) {
        if (ballotIsNot(b) || part < 0 || part > 1) {
            return BAD;
        }
        Fraction[] each = new Fraction[11];
        elect(now, 0, each);
        return each[b].part(part);
    }

    long greatest(int part) {
        if (part < 0 || part > 1) {
            return BAD;
        }
        Fraction[] each = new Fraction[11];
        elect(now, 0, each);
        return Collections.max(List.of(each)).part(part);
    }

    // ---- groups

    private List<Ballot> agreeing(int set) {
        return now.ballots().stream().filter(b -> (b.set() | set) == b.set()).toList();
    }

    private boolean owed(int set) {
        int voters = agreeing(set).stream().mapToInt(Ballot::voters).sum();
        Fraction due = Fraction.of(now.all(), now.seats()).times(Integer.bitCount(set));
        return voters >= 1 && Fraction.of(voters, 1).compareTo(due) >= 0;
    }

    private int reached(int set, int members) {
        int count = 0;
        for (int c = 0; c < now.n(); c++) {
            int who = c;
            if ((members >> c & 1) == 1 && agreeing(set).stream().anyMatch(b -> (b.set() >> who & 1) == 1)) {
                count++;
            }
        }
        return count;
    }

    int agrees(int set, int what) {
        if (setIsNot(set) || what < 0 || what > 5) {
            return BAD;
        }
        if (what == 0) {
            return agreeing(set).stream().mapToInt(Ballot::voters).sum();
        }
        return what == 1 ? owed(set) ? 1 : 0 : reached(set, bits(now, what - 2));
    }

    int shorts(int law, int i) {
        if (lawIsNot(law) || i < -1) {
            return BAD;
        }
        List<Integer> found = new ArrayList<>();
        int members = bits(now, law);
        for (int set = 1; set < 1 << now.n(); set++) {
            if (owed(set) && reached(set, members) < Integer.bitCount(set)) {
                found.add(set);
            }
        }
        return i == -1 ? found.size() : i < found.size() ? found.get(i) : NONE;
    }

    // ---- what would be

    int joins(int law, int c) {
        if (lawIsNot(law) || candidateIsNot(c)) {
            return BAD;
        }
        if ((now.withdrawn() >> c & 1) == 1) {
            return NO;
        }
        for (int more = 0; more <= 20; more++) {
            State then = now.withBallot(now.ballots().size(), new Ballot(more, 1 << c));
            if ((bits(then, law) >> c & 1) == 1) {
                return more;
            }
        }
        return NONE;
    }

    int matters(int law) {
        if (lawIsNot(law)) {
            return BAD;
        }
        int found = 0;
        for (int b = 0; b < now.ballots().size(); b++) {
            Ballot was = now.ballots().get(b);
            State then = now.withBallot(b, new Ballot(was.voters() - 1, was.set()));
            found |= bits(then, law) == bits(now, law) ? 0 : 1 << b;
        }
        return found;
    }

    int rather(int law, int b, int what) {
        if (lawIsNot(law) || ballotIsNot(b) || what < 0 || what > 1) {
            return BAD;
        }
        Ballot own = now.ballots().get(b);
        int[] got = new int[1 << now.n()];
        int most = 0;
        for (int set = 1; set < got.length; set++) {
            State then = now.withBallot(b, new Ballot(own.voters(), set));
            got[set] = Integer.bitCount(bits(then, law) & own.set());
            most = Math.max(most, got[set]);
        }
        if (most == got[own.set()]) {
            return NONE;
        }
        int least = 1;
        while (got[least] != most) {
            least++;
        }
        return what == 0 ? least : most;
    }

    int decided(int law) {
        if (lawIsNot(law)) {
            return BAD;
        }
        List<Integer> rank = new ArrayList<>(now.rank());
        Collections.reverse(rank);
        return bits(now.withRank(rank), law) == bits(now, law) ? 0 : 1;
    }

    int both(int law, int other) {
        if (lawIsNot(law) || lawIsNot(other)) {
            return BAD;
        }
        return Integer.bitCount(bits(now, law) & bits(now, other));
    }

    int count(int what) {
        int[] counts = {now.n(), now.ballots().size(), now.all(), now.seats(),
            Integer.bitCount(now.withdrawn()), past.size(), text.length()};
        return what < 0 || what >= counts.length ? BAD : counts[what];
    }
}
