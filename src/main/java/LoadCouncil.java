/**
 * A council by approval: ballots approve of sets of candidates, and members are elected one by one
 * by four laws. Every number of the document's face is told in ../shared/DOC.md.
 */
public final class LoadCouncil {
    public static final int BAD = -1, NO = -2, FULL = -3, NONE = -4;

    private static final int MAX_CANDIDATES = 8;
    private static final int MAX_BALLOTS = 10;
    private static final int MAX_VOTERS = 40;
    private static final int MAX_VOTERS_OF_BALLOT = 20;
    private static final int MAX_SEATS = 8;
    private static final int SEATS_UNTOLD = 3;
    private static final int MAX_LETTERS = 200;
    private static final int MAX_UNDO = 6;
    private static final int MAX_JOINING = 20;

    /** The ballot that joins may be one more than ballots can be. */
    private static final int BALLOT_ROWS = MAX_BALLOTS + 1;

    private static final int LAWS = 4;
    private static final int BY_LOADS = 0;
    private static final int BY_MOST = 1;
    private static final int BY_HALVING = 2;

    /** Can be divided by each of 1 to 8, so that every weight is a whole number of its parts. */
    private static final int WHOLE_WEIGHT = 840;

    /** Euclid's steps for two numbers of 63 bits are fewer than this. */
    private static final int GCD_STEPS = 128;

    private static final String FIRST_TEXT = "n6;b9,ab;b6,abc;b5,cd;b4,de;b3,f;b2,ef;k4;";

    private final Text text;
    private final Council now;
    private final Council trial;
    private final Past past;
    private final Election election;

    public LoadCouncil() {
        text = new Text();
        now = new Council();
        trial = new Council();
        past = new Past();
        election = new Election();
        for (int i = 0; i < FIRST_TEXT.length(); i++) {
            text.add(FIRST_TEXT.charAt(i));
        }
        text.readInto(now);
        text.clear();
    }

    // ---- told

    public int write(int letter) {
        if (letter < 32 || letter > 126) {
            return BAD;
        }
        return text.add(letter) ? text.length : FULL;
    }

    public int wipe() {
        int was = text.length;
        text.clear();
        return was;
    }

    public int fault() {
        return text.readInto(trial);
    }

    public int lay() {
        if (text.readInto(trial) != NONE || trial.candidates == 0) {
            return NO;
        }
        now.copyFrom(trial);
        past.forget();
        return now.candidates;
    }

    // ---- told anew

    public int ballot(int v, int set) {
        if (!isVoters(v) || !isSet(set)) {
            return BAD;
        }
        if (now.ballots >= MAX_BALLOTS || now.allVoters() + v > MAX_VOTERS) {
            return FULL;
        }
        past.keep(now);
        now.addBallot(v, set);
        return now.ballots - 1;
    }

    public int voters(int b, int v) {
        if (!isBallot(b) || !isVoters(v)) {
            return BAD;
        }
        int were = now.voters[b];
        if (were == v) {
            return NO;
        }
        if (now.allVoters() - were + v > MAX_VOTERS) {
            return FULL;
        }
        past.keep(now);
        now.voters[b] = v;
        return were;
    }

    public int approve(int b, int set) {
        if (!isBallot(b) || !isSet(set)) {
            return BAD;
        }
        int was = now.sets[b];
        if (was == set) {
            return NO;
        }
        past.keep(now);
        now.sets[b] = set;
        return was;
    }

    public int seats(int k) {
        if (k < 1 || k > MAX_SEATS) {
            return BAD;
        }
        int were = now.seats;
        if (were == k) {
            return NO;
        }
        past.keep(now);
        now.seats = k;
        return were;
    }

    public int withdraw(int c, int is) {
        if (!isCandidate(c) || is < 0 || is > 1) {
            return BAD;
        }
        if (now.isWithdrawn(c) == (is == 1)) {
            return NO;
        }
        past.keep(now);
        now.withdrawn ^= 1 << c;
        return Integer.bitCount(now.withdrawn);
    }

    public int prefer(int c) {
        if (!isCandidate(c)) {
            return BAD;
        }
        int place = now.placeOf(c);
        if (place == 0) {
            return NO;
        }
        past.keep(now);
        now.bringToFront(place);
        return place;
    }

    public int undo() {
        if (past.size == 0) {
            return NO;
        }
        past.bringBack(now);
        return past.size;
    }

    // ---- what there is

    public int candidate(int c, int what) {
        if (!isCandidate(c)) {
            return BAD;
        }
        switch (what) {
            case 0: return now.supportOf(c);
            case 1: return now.placeOf(c);
            case 2: return now.isWithdrawn(c) ? 1 : 0;
            case 3: return lawsThatElect(c);
            default: return BAD;
        }
    }

    public int vote(int b, int what) {
        if (!isBallot(b) || what < 0 || what > 5) {
            return BAD;
        }
        if (what == 0) {
            return now.voters[b];
        }
        if (what == 1) {
            return now.sets[b];
        }
        return Integer.bitCount(election.hold(now, what - 2) & now.sets[b]);
    }

    // ---- members

    public int member(int law, int i) {
        if (!isLaw(law) || i < -1) {
            return BAD;
        }
        election.hold(now, law);
        if (i == -1) {
            return election.elected;
        }
        return i < election.elected ? election.order[i] : NONE;
    }

    public int members(int law) {
        return isLaw(law) ? election.hold(now, law) : BAD;
    }

    public long came(int law, int i, int part) {
        if (!isLaw(law) || i < 0 || !isPart(part)) {
            return BAD;
        }
        election.hold(now, law);
        if (i >= election.elected || election.below[i] == 0) {
            return NONE;
        }
        return partOf(election.above[i], election.below[i], part);
    }

    public long load(int b, int part) {
        if (!isBallot(b) || !isPart(part)) {
            return BAD;
        }
        election.hold(now, BY_LOADS);
        return partOf(election.loads[b], election.unit, part);
    }

    public long greatest(int part) {
        if (!isPart(part)) {
            return BAD;
        }
        election.hold(now, BY_LOADS);
        long most = 0;
        for (int b = 0; b < now.ballots; b++) {
            most = Math.max(most, election.loads[b]);
        }
        return partOf(most, election.unit, part);
    }

    // ---- groups

    public int agrees(int set, int what) {
        if (!isSet(set) || what < 0 || what > 5) {
            return BAD;
        }
        if (what == 0) {
            return now.votersWhoAgree(set);
        }
        if (what == 1) {
            return now.isOwed(set) ? 1 : 0;
        }
        return Integer.bitCount(election.hold(now, what - 2) & now.approvedByThoseWhoAgree(set));
    }

    public int shorts(int law, int i) {
        if (!isLaw(law) || i < -1) {
            return BAD;
        }
        int elected = election.hold(now, law);
        int found = 0;
        for (int set = 1; set < 1 << now.candidates; set++) {
            if (now.isShort(set, elected)) {
                if (found == i) {
                    return set;
                }
                found++;
            }
        }
        return i == -1 ? found : NONE;
    }

    // ---- what would be

    public int joins(int law, int c) {
        if (!isLaw(law) || !isCandidate(c)) {
            return BAD;
        }
        if (now.isWithdrawn(c)) {
            return NO;
        }
        trial.copyFrom(now);
        // Without voters that ballot changes nothing, so that 0 asks how things stand.
        trial.addBallot(0, 1 << c);
        for (int more = 0; more <= MAX_JOINING; more++) {
            trial.voters[now.ballots] = more;
            if (hasBit(election.hold(trial, law), c)) {
                return more;
            }
        }
        return NONE;
    }

    public int matters(int law) {
        if (!isLaw(law)) {
            return BAD;
        }
        int elected = election.hold(now, law);
        int found = 0;
        trial.copyFrom(now);
        for (int b = 0; b < now.ballots; b++) {
            // A ballot whose only voter is gone bears on nothing, as if it were none.
            trial.voters[b] = now.voters[b] - 1;
            if (election.hold(trial, law) != elected) {
                found |= 1 << b;
            }
            trial.voters[b] = now.voters[b];
        }
        return found;
    }

    public int rather(int law, int b, int what) {
        if (!isLaw(law) || !isBallot(b) || what < 0 || what > 1) {
            return BAD;
        }
        int own = now.sets[b];
        int most = Integer.bitCount(election.hold(now, law) & own);
        int best = NONE;
        trial.copyFrom(now);
        for (int set = 1; set < 1 << now.candidates; set++) {
            trial.sets[b] = set;
            int got = Integer.bitCount(election.hold(trial, law) & own);
            if (got > most) {
                most = got;
                best = set;
            }
        }
        return best == NONE || what == 0 ? best : most;
    }

    public int decided(int law) {
        if (!isLaw(law)) {
            return BAD;
        }
        int elected = election.hold(now, law);
        trial.copyFrom(now);
        trial.turnRankRound();
        return election.hold(trial, law) != elected ? 1 : 0;
    }

    public int both(int law, int other) {
        if (!isLaw(law) || !isLaw(other)) {
            return BAD;
        }
        int elected = election.hold(now, law);
        return Integer.bitCount(elected & election.hold(now, other));
    }

    public int count(int what) {
        switch (what) {
            case 0: return now.candidates;
            case 1: return now.ballots;
            case 2: return now.allVoters();
            case 3: return now.seats;
            case 4: return Integer.bitCount(now.withdrawn);
            case 5: return past.size;
            case 6: return text.length;
            default: return BAD;
        }
    }

    private int lawsThatElect(int c) {
        int laws = 0;
        for (int law = 0; law < LAWS; law++) {
            if (hasBit(election.hold(now, law), c)) {
                laws |= 1 << law;
            }
        }
        return laws;
    }

    private boolean isCandidate(int c) {
        return c >= 0 && c < now.candidates;
    }

    private boolean isBallot(int b) {
        return b >= 0 && b < now.ballots;
    }

    private boolean isSet(int set) {
        return set >= 1 && set < 1 << now.candidates;
    }

    private static boolean isVoters(int v) {
        return v >= 1 && v <= MAX_VOTERS_OF_BALLOT;
    }

    private static boolean isLaw(int law) {
        return law >= 0 && law < LAWS;
    }

    private static boolean isPart(int part) {
        return part == 0 || part == 1;
    }

    private static boolean hasBit(int bits, int i) {
        return (bits >> i & 1) == 1;
    }

    /** Above (part 0) or below (1) of a fraction in lowest terms. */
    private static long partOf(long above, long below, int part) {
        long shared = Math.max(1, greatestDivisor(above, below));
        return (part == 0 ? above : below) / shared;
    }

    private static long greatestDivisor(long a, long b) {
        long greater = a;
        long rest = b;
        for (int i = 0; i < GCD_STEPS && rest != 0; i++) {
            long next = greater % rest;
            greater = rest;
            rest = next;
        }
        return greater;
    }

    /** What can be changed: candidates, ballots, seats, rank, and who is withdrawn. */
    private static final class Council {
        private int candidates;
        private int ballots;
        private int seats;
        private int withdrawn;
        private final int[] voters;
        private final int[] sets;
        private final int[] rank;

        private Council() {
            voters = new int[BALLOT_ROWS];
            sets = new int[BALLOT_ROWS];
            rank = new int[MAX_CANDIDATES];
        }

        /** Empty, but for so many candidates (0 to 8). */
        private void beginWith(int n) {
            candidates = n;
            ballots = 0;
            seats = SEATS_UNTOLD;
            withdrawn = 0;
            for (int i = 0; i < MAX_CANDIDATES; i++) {
                rank[i] = i;
            }
        }

        private void copyFrom(Council other) {
            candidates = other.candidates;
            ballots = other.ballots;
            seats = other.seats;
            withdrawn = other.withdrawn;
            System.arraycopy(other.voters, 0, voters, 0, BALLOT_ROWS);
            System.arraycopy(other.sets, 0, sets, 0, BALLOT_ROWS);
            System.arraycopy(other.rank, 0, rank, 0, MAX_CANDIDATES);
        }

        private void addBallot(int v, int set) {
            if (ballots < BALLOT_ROWS) {
                voters[ballots] = v;
                sets[ballots] = set;
                ballots++;
            }
        }

        private int allVoters() {
            return votersWhoAgree(0);
        }

        private int supportOf(int c) {
            return votersWhoAgree(1 << c);
        }

        private boolean agreesTo(int b, int set) {
            return (sets[b] & set) == set;
        }

        private int votersWhoAgree(int set) {
            int sum = 0;
            for (int b = 0; b < ballots; b++) {
                if (agreesTo(b, set)) {
                    sum += voters[b];
                }
            }
            return sum;
        }

        private int approvedByThoseWhoAgree(int set) {
            int approved = 0;
            for (int b = 0; b < ballots; b++) {
                if (agreesTo(b, set)) {
                    approved |= sets[b];
                }
            }
            return approved;
        }

        private boolean isOwed(int set) {
            int agreeing = votersWhoAgree(set);
            return agreeing > 0 && agreeing * seats >= Integer.bitCount(set) * allVoters();
        }

        private boolean isShort(int set, int elected) {
            return isOwed(set)
                && Integer.bitCount(elected & approvedByThoseWhoAgree(set)) < Integer.bitCount(set);
        }

        private boolean isWithdrawn(int c) {
            return hasBit(withdrawn, c);
        }

        private int placeOf(int c) {
            int place = 0;
            for (int i = 0; i < candidates; i++) {
                if (rank[i] == c) {
                    place = i;
                }
            }
            return place;
        }

        private void bringToFront(int place) {
            int c = rank[place];
            for (int i = place; i > 0; i--) {
                rank[i] = rank[i - 1];
            }
            rank[0] = c;
        }

        private void turnRankRound() {
            for (int i = 0; i < candidates / 2; i++) {
                int c = rank[i];
                rank[i] = rank[candidates - 1 - i];
                rank[candidates - 1 - i] = c;
            }
        }
    }

    /** The councils ahead of the last changes, in a ring. */
    private static final class Past {
        private final Council[] ring;
        private int top;
        private int size;

        private Past() {
            ring = new Council[MAX_UNDO];
            for (int i = 0; i < MAX_UNDO; i++) {
                ring[i] = new Council();
            }
        }

        private void forget() {
            size = 0;
        }

        private void keep(Council council) {
            ring[top].copyFrom(council);
            top = (top + 1) % MAX_UNDO;
            size = Math.min(size + 1, MAX_UNDO);
        }

        private void bringBack(Council council) {
            top = (top + MAX_UNDO - 1) % MAX_UNDO;
            size--;
            council.copyFrom(ring[top]);
        }
    }

    /** THE TEXT, and how it is read. */
    private static final class Text {
        private final int[] letters;
        private int length;

        private Text() {
            letters = new int[MAX_LETTERS];
        }

        private boolean add(int letter) {
            if (length >= MAX_LETTERS) {
                return false;
            }
            letters[length] = letter;
            length++;
            return true;
        }

        private void clear() {
            length = 0;
        }

        /** The place of the FAULT, or NONE; the council is as told only without one. */
        private int readInto(Council council) {
            council.beginWith(0);
            int start = 0;
            for (int i = 0; i < length; i++) {
                if (letters[i] == ';') {
                    if (!readItem(council, start, i)) {
                        return start;
                    }
                    start = i + 1;
                }
            }
            return start < length ? start : NONE;
        }

        private boolean readItem(Council council, int start, int end) {
            if (start >= end) {
                return false;
            }
            int kind = letters[start];
            if (kind == 'n') {
                return readCandidates(council, start + 1, end);
            }
            if (council.candidates == 0) {
                return false;
            }
            switch (kind) {
                case 'b': return readBallot(council, start + 1, end);
                case 'k': return readSeats(council, start + 1, end);
                case 'o': return readRank(council, start + 1, end);
                default: return false;
            }
        }

        private boolean readCandidates(Council council, int from, int end) {
            int n = number(from, end);
            if (council.candidates != 0 || n < 1 || n > MAX_CANDIDATES) {
                return false;
            }
            council.beginWith(n);
            return true;
        }

        private boolean readBallot(Council council, int from, int end) {
            int comma = from;
            while (comma < end && letters[comma] != ',') {
                comma++;
            }
            int v = number(from, comma);
            int set = risingSet(council.candidates, comma + 1, end);
            if (!isVoters(v) || set == 0 || council.ballots >= MAX_BALLOTS
                || council.allVoters() + v > MAX_VOTERS) {
                return false;
            }
            council.addBallot(v, set);
            return true;
        }

        private boolean readSeats(Council council, int from, int end) {
            int k = number(from, end);
            if (k < 1 || k > MAX_SEATS) {
                return false;
            }
            council.seats = k;
            return true;
        }

        private boolean readRank(Council council, int from, int end) {
            if (end - from != council.candidates) {
                return false;
            }
            int seen = 0;
            for (int i = 0; i < council.candidates; i++) {
                int c = letters[from + i] - 'a';
                if (c < 0 || c >= council.candidates || hasBit(seen, c)) {
                    return false;
                }
                seen |= 1 << c;
                council.rank[i] = c;
            }
            return true;
        }

        /** A number of one or two figures, or BAD. */
        private int number(int from, int end) {
            if (end - from < 1 || end - from > 2) {
                return BAD;
            }
            int value = 0;
            for (int i = from; i < end; i++) {
                int figure = letters[i] - '0';
                if (figure < 0 || figure > 9) {
                    return BAD;
                }
                value = value * 10 + figure;
            }
            return value;
        }

        /** Rising letters of candidates as bits; 0 if there are none, or they are not so. */
        private int risingSet(int candidates, int from, int end) {
            int set = 0;
            int least = 0;
            for (int i = from; i < end; i++) {
                int c = letters[i] - 'a';
                if (c < least || c >= candidates) {
                    return 0;
                }
                set |= 1 << c;
                least = c + 1;
            }
            return set;
        }
    }

    /**
     * The members of a council by one law. LOADS and BUYING are one reckoning: with the TIME at
     * which a voter spent last as its LOAD, the voters of a candidate have 1 together at
     * (1 and these loads together) by SUPPORT, which is its NEW LOAD.
     */
    private static final class Election {
        private final int[] order;
        private final long[] above;
        /** 0 where a member came by nothing. */
        private final long[] below;
        private int elected;
        private int set;

        private final int[] support;
        private final long[] worth;
        /** Loads of the voters of each ballot, all of them by unit. */
        private final long[] loads;
        /** At most 60 to the power of 8, so that nothing here comes near 63 bits. */
        private long unit;

        private Election() {
            order = new int[MAX_CANDIDATES];
            above = new long[MAX_CANDIDATES];
            below = new long[MAX_CANDIDATES];
            support = new int[MAX_CANDIDATES];
            worth = new long[MAX_CANDIDATES];
            loads = new long[BALLOT_ROWS];
        }

        /** Elects all members, and tells them as bits. */
        private int hold(Council council, int law) {
            begin(council);
            for (int seat = 0; seat < council.seats; seat++) {
                int c = nextMember(council, law);
                if (c == NONE) {
                    return set;
                }
                elect(council, law, c);
            }
            return set;
        }

        private void begin(Council council) {
            elected = 0;
            set = 0;
            unit = 1;
            for (int b = 0; b < BALLOT_ROWS; b++) {
                loads[b] = 0;
            }
            for (int c = 0; c < council.candidates; c++) {
                support[c] = council.supportOf(c);
            }
        }

        private int nextMember(Council council, int law) {
            int best = NONE;
            for (int i = 0; i < council.candidates; i++) {
                int c = council.rank[i];
                if (!hasBit(council.withdrawn | set, c)) {
                    worth[c] = worthOf(council, law, c);
                    if (best == NONE || isAhead(law, c, best)) {
                        best = c;
                    }
                }
            }
            return best;
        }

        /** SUPPORT; WEIGHT in parts of WHOLE_WEIGHT; or what is borne in all, by unit. */
        private long worthOf(Council council, int law, int c) {
            if (law == BY_MOST) {
                return support[c];
            }
            long sum = law == BY_HALVING ? 0 : unit;
            for (int b = 0; b < council.ballots; b++) {
                if (hasBit(council.sets[b], c)) {
                    sum += council.voters[b] * (law == BY_HALVING ? weightOf(council, b) : loads[b]);
                }
            }
            return sum;
        }

        private long weightOf(Council council, int b) {
            return WHOLE_WEIGHT / (1 + Integer.bitCount(council.sets[b] & set));
        }

        /** Whether c is strictly better than another that is earlier in RANK. */
        private boolean isAhead(int law, int c, int other) {
            if (support[c] == 0 || support[other] == 0) {
                return support[c] > support[other];
            }
            if (law == BY_MOST || law == BY_HALVING) {
                return worth[c] > worth[other];
            }
            return worth[c] * support[other] < worth[other] * support[c];
        }

        private void elect(Council council, int law, int c) {
            if (elected >= MAX_CANDIDATES) {
                return;
            }
            order[elected] = c;
            above[elected] = worth[c];
            if (support[c] == 0) {
                below[elected] = 0;
            } else if (law == BY_MOST) {
                below[elected] = 1;
            } else if (law == BY_HALVING) {
                below[elected] = WHOLE_WEIGHT;
            } else {
                spreadLoad(council, c);
                below[elected] = unit;
            }
            elected++;
            set |= 1 << c;
        }

        private void spreadLoad(Council council, int c) {
            for (int b = 0; b < council.ballots; b++) {
                loads[b] = hasBit(council.sets[b], c) ? worth[c] : loads[b] * support[c];
            }
            unit *= support[c];
        }
    }
}
