/** Each promise of the document in its order: ordinary inputs, edges, wrong inputs; by hand. */
public final class PromisesTest {
    private static final int BAD = LoadCouncil.BAD;
    private static final int NO = LoadCouncil.NO;
    private static final int FULL = LoadCouncil.FULL;
    private static final int NONE = LoadCouncil.NONE;

    /** a and b are alike, and with c for the second seat by loads, weights and money. */
    private static final String TIES = "n3;b2,ab;b1,c;k2;";

    public static void main(String[] args) {
        p00Constants();
        p01NewObject();
        p02Write();
        p03Wipe();
        p04Fault();
        p04FaultOfTooMany();
        p05Lay();
        p05LayRefused();
        p06Ballot();
        p07Voters();
        p08Approve();
        p09Seats();
        p10Withdraw();
        p11Prefer();
        p12Undo();
        p12UndoOfEachChange();
        p13Candidate();
        p14Vote();
        p15Member();
        p15WithoutSupport();
        p16Members();
        p17Came();
        p17CameOfGreatNumbers();
        p18Load();
        p19Greatest();
        p20Agrees();
        p21Shorts();
        p22Joins();
        p22JoinsBeyondLimits();
        p23Matters();
        p24Rather();
        p25Decided();
        p26Both();
        p27Count();
        Check.end();
    }

    private static void due(String call, long got, long want) {
        Check.due(call, got, want);
    }

    private static void tell(LoadCouncil x, String text) {
        x.wipe();
        for (int i = 0; i < text.length(); i++) {
            x.write(text.charAt(i));
        }
    }

    private static LoadCouncil laid(String text) {
        LoadCouncil x = new LoadCouncil();
        tell(x, text);
        due("fault of " + text, x.fault(), NONE);
        due("lay of " + text, x.lay(), text.charAt(1) - '0');
        return x;
    }

    private static void dueRow(String name, LoadCouncil x, int law, int... want) {
        for (int i = 0; i < want.length; i++) {
            due(name + ": member(" + law + ", " + i + ")", x.member(law, i), want[i]);
        }
        due(name + ": member(" + law + ", -1)", x.member(law, -1), want.length);
        due(name + ": member(" + law + ", behind)", x.member(law, want.length), NONE);
    }

    private static void dueCame(LoadCouncil x, int law, int i, long above, long below) {
        due("came(" + law + ", " + i + ", 0)", x.came(law, i, 0), above);
        due("came(" + law + ", " + i + ", 1)", x.came(law, i, 1), below);
    }

    private static void dueLoad(LoadCouncil x, int b, long above, long below) {
        due("load(" + b + ", 0)", x.load(b, 0), above);
        due("load(" + b + ", 1)", x.load(b, 1), below);
    }

    private static void p00Constants() {
        due("BAD", BAD, -1);
        due("NO", NO, -2);
        due("FULL", FULL, -3);
        due("NONE", NONE, -4);
    }

    private static void p01NewObject() {
        LoadCouncil x = new LoadCouncil();
        int[] counts = {6, 6, 29, 4, 0, 0, 0};
        for (int what = 0; what < counts.length; what++) {
            due("new: count(" + what + ")", x.count(what), counts[what]);
        }
        int[] voters = {9, 6, 5, 4, 3, 2};
        int[] sets = {0b11, 0b111, 0b1100, 0b11000, 0b100000, 0b110000};
        for (int b = 0; b < 6; b++) {
            due("new: vote(" + b + ", 0)", x.vote(b, 0), voters[b]);
            due("new: vote(" + b + ", 1)", x.vote(b, 1), sets[b]);
            due("new: candidate(" + b + ", 1)", x.candidate(b, 1), b);
            due("new: candidate(" + b + ", 2)", x.candidate(b, 2), 0);
        }
        due("new: fault", x.fault(), NONE);
        due("new: lay", x.lay(), NO);
        due("new: undo", x.undo(), NO);
        due("new: wipe", x.wipe(), 0);
    }

    private static void p02Write() {
        LoadCouncil x = new LoadCouncil();
        due("write(31)", x.write(31), BAD);
        due("write(127)", x.write(127), BAD);
        due("write(-1)", x.write(-1), BAD);
        due("write(256 + 110)", x.write(256 + 'n'), BAD);
        due("write(32)", x.write(32), 1);
        due("write(126)", x.write(126), 2);
        for (int i = 3; i <= 200; i++) {
            due("write to " + i, x.write(';'), i);
        }
        due("write to 201", x.write(';'), FULL);
        due("write to 201, BAD first", x.write(31), BAD);
        due("letters", x.count(6), 200);
        due("undo behind write", x.undo(), NO);
    }

    private static void p03Wipe() {
        LoadCouncil x = new LoadCouncil();
        due("wipe of nothing", x.wipe(), 0);
        tell(x, "n2;");
        due("wipe of 3", x.wipe(), 3);
        due("wipe again", x.wipe(), 0);
        due("write behind wipe", x.write('n'), 1);
        due("candidates behind wipe", x.count(0), 6);
    }

    private static void dueFault(String text, int want) {
        LoadCouncil x = new LoadCouncil();
        tell(x, text);
        due("fault of '" + text + "'", x.fault(), want);
        due("letters of '" + text + "'", x.count(6), text.length());
        due("candidates by '" + text + "'", x.count(0), 6);
    }

    private static void p04Fault() {
        String[] good = {"", "n1;", "n8;", "n08;", "n3;b1,a;", "n3;b01,abc;", "n3;b20,ac;b20,b;", "n3;k1;k8;k08;",
            "n3;oabc;ocba;", "n1;oa;", "n2;k2;oba;b3,b;k1;", "n8;b1,abcdefgh;"};
        for (String text : good) {
            dueFault(text, NONE);
        }
        String[] first = {"n", "n3", "n;", "n0;", "n00;", "n9;", "n10;", "n003;", "nn3;", "n3,;", "N3;", ";", " n3;",
            "k3;", "oa;", "b1,a;", "x;", "n-1;", "n 3;", "~", "b1,a;n3;", "n3 ;"};
        for (String text : first) {
            dueFault(text, 0);
        }
        String[] behind = {"n3;n3;", "n3;;", "n3;b", "n3;b1,a", "n3;b1,;", "n3;b1;", "n3;b1a;", "n3;b,a;", "n3;ba;",
            "n3;b0,a;", "n3;b21,a;", "n3;b001,a;", "n3;b1,d;", "n3;b1,aa;", "n3;b1,ba;", "n3;b1,A;", "n3;b1,a,b;",
            "n3;b1,a ;", "n3;k0;", "n3;k9;", "n3;k10;", "n3;k;", "n3;k003;", "n3;k3", "n3;o;", "n3;oab;", "n3;oabcd;",
            "n3;oaab;", "n3;oabd;", "n3;oabcc;", "n3;oABC;", "n3; ", "n3;q1;", "n3;b1,`;", "n3;b1/a;", "n3;b:,a;",
            "n3;b/,a;", "n3;b1,a", "n3;k3n3;", "n3;b1,,a;"};
        for (String text : behind) {
            dueFault(text, 3);
        }
        dueFault("n3;b1,a;k4;b1,d;k9;", 11);
        dueFault("n8;oabcdefgh;oabcdefg", 13);
    }

    private static void p04FaultOfTooMany() {
        String ten = "n2;" + "b1,a;".repeat(10);
        dueFault(ten, NONE);
        dueFault(ten + "b1,a;", 53);
        dueFault(ten + "k9;b1,a;", 53);
        dueFault("n2;b20,a;b20,b;", NONE);
        dueFault("n2;b20,a;b20,b;b1,a;", 15);
        dueFault("n2;b20,a;b10,b;b11,a;k9;", 15);
        dueFault("n2;b20,a;b10,b;b10,a;", NONE);
    }

    private static void p05Lay() {
        LoadCouncil x = laid("n4;b3,ad;k2;k5;b1,b;odcba;obadc;");
        int[] counts = {4, 2, 4, 5, 0, 0, 32};
        for (int what = 0; what < counts.length; what++) {
            due("laid: count(" + what + ")", x.count(what), counts[what]);
        }
        due("laid: vote(0, 0)", x.vote(0, 0), 3);
        due("laid: vote(0, 1)", x.vote(0, 1), 0b1001);
        due("laid: vote(1, 0)", x.vote(1, 0), 1);
        due("laid: vote(1, 1)", x.vote(1, 1), 0b10);
        int[] places = {1, 0, 3, 2};
        for (int c = 0; c < 4; c++) {
            due("laid: candidate(" + c + ", 1)", x.candidate(c, 1), places[c]);
        }
        x.withdraw(2, 1);
        x.seats(1);
        x.prefer(3);
        due("lay again", x.lay(), 4);
        due("none withdrawn", x.count(4), 0);
        due("seats as told", x.count(3), 5);
        due("rank as told", x.candidate(3, 1), 2);
        due("nothing to undo", x.count(5), 0);
        due("undo behind lay", x.undo(), NO);
        tell(x, "n2;");
        due("lay without ballots", x.lay(), 2);
        due("no ballots", x.count(1), 0);
        due("no voters", x.count(2), 0);
        due("three seats", x.count(3), 3);
        due("rank 0", x.candidate(0, 1), 0);
        due("rank 1", x.candidate(1, 1), 1);
    }

    private static void p05LayRefused() {
        LoadCouncil x = new LoadCouncil();
        x.withdraw(1, 1);
        String[] texts = {"", "n3", "n3;b1,d;", "k3;", "n3;b1,a;k"};
        for (String text : texts) {
            tell(x, text);
            due("lay of '" + text + "'", x.lay(), NO);
            due("candidates stay", x.count(0), 6);
            due("ballots stay", x.count(1), 6);
            due("withdrawn stay", x.count(4), 1);
            due("changes stay", x.count(5), 1);
            due("text stays", x.count(6), text.length());
        }
        due("undo behind refused lay", x.undo(), 0);
    }

    private static void p06Ballot() {
        LoadCouncil x = laid("n3;b5,a;");
        due("ballot(0, 1)", x.ballot(0, 1), BAD);
        due("ballot(21, 1)", x.ballot(21, 1), BAD);
        due("ballot(1, 0)", x.ballot(1, 0), BAD);
        due("ballot(1, 8)", x.ballot(1, 8), BAD);
        due("ballot(1, -1)", x.ballot(1, -1), BAD);
        due("no change", x.count(5), 0);
        due("ballot(20, 7)", x.ballot(20, 7), 1);
        due("voters of it", x.vote(1, 0), 20);
        due("set of it", x.vote(1, 1), 7);
        due("ballot(16, 1)", x.ballot(16, 1), FULL);
        due("ballot(15, 1)", x.ballot(15, 1), 2);
        due("ballot(1, 1)", x.ballot(1, 1), FULL);
        due("ballot(21, 1), BAD first", x.ballot(21, 1), BAD);
        due("two changes", x.count(5), 2);
        LoadCouncil y = laid("n1;");
        for (int b = 0; b < 10; b++) {
            due("ballot " + b, y.ballot(1, 1), b);
        }
        due("ballot 10", y.ballot(1, 1), FULL);
        due("ten ballots", y.count(1), 10);
    }

    private static void p07Voters() {
        LoadCouncil x = laid("n2;b20,a;b10,b;b9,ab;");
        due("voters(3, 1)", x.voters(3, 1), BAD);
        due("voters(-1, 1)", x.voters(-1, 1), BAD);
        due("voters(0, 0)", x.voters(0, 0), BAD);
        due("voters(0, 21)", x.voters(0, 21), BAD);
        due("voters(0, 20)", x.voters(0, 20), NO);
        due("voters(1, 12)", x.voters(1, 12), FULL);
        due("no change", x.count(5), 0);
        due("voters(1, 11)", x.voters(1, 11), 10);
        due("voters in all", x.count(2), 40);
        due("voters(2, 9)", x.voters(2, 9), NO);
        due("voters(2, 10)", x.voters(2, 10), FULL);
        due("voters(0, 1)", x.voters(0, 1), 20);
        due("voters(1, 20)", x.voters(1, 20), 11);
        due("vote(1, 0)", x.vote(1, 0), 20);
        due("support of b", x.candidate(1, 0), 29);
        due("three changes", x.count(5), 3);
    }

    private static void p08Approve() {
        LoadCouncil x = laid("n3;b2,ab;b1,c;");
        due("approve(2, 1)", x.approve(2, 1), BAD);
        due("approve(-1, 1)", x.approve(-1, 1), BAD);
        due("approve(0, 0)", x.approve(0, 0), BAD);
        due("approve(0, 8)", x.approve(0, 8), BAD);
        due("approve(0, min)", x.approve(0, Integer.MIN_VALUE), BAD);
        due("approve(0, 3)", x.approve(0, 3), NO);
        due("no change", x.count(5), 0);
        due("approve(0, 7)", x.approve(0, 7), 3);
        due("vote(0, 1)", x.vote(0, 1), 7);
        due("support of c", x.candidate(2, 0), 3);
        due("one change", x.count(5), 1);
    }

    private static void p09Seats() {
        LoadCouncil x = laid("n2;");
        due("seats(0)", x.seats(0), BAD);
        due("seats(9)", x.seats(9), BAD);
        due("seats(3)", x.seats(3), NO);
        due("no change", x.count(5), 0);
        due("seats(8)", x.seats(8), 3);
        due("seats(1)", x.seats(1), 8);
        due("count(3)", x.count(3), 1);
        due("members", x.member(1, -1), 1);
    }

    private static void p10Withdraw() {
        LoadCouncil x = laid("n3;b3,a;b2,b;b1,c;k2;");
        due("withdraw(3, 1)", x.withdraw(3, 1), BAD);
        due("withdraw(-1, 1)", x.withdraw(-1, 1), BAD);
        due("withdraw(0, 2)", x.withdraw(0, 2), BAD);
        due("withdraw(0, -1)", x.withdraw(0, -1), BAD);
        due("withdraw(0, 0)", x.withdraw(0, 0), NO);
        due("no change", x.count(5), 0);
        due("withdraw(0, 1)", x.withdraw(0, 1), 1);
        due("withdraw(0, 1) again", x.withdraw(0, 1), NO);
        due("is withdrawn", x.candidate(0, 2), 1);
        due("still has support", x.candidate(0, 0), 3);
        for (int law = 0; law < 4; law++) {
            dueRow("without a", x, law, 1, 2);
        }
        due("withdraw(2, 1)", x.withdraw(2, 1), 2);
        for (int law = 0; law < 4; law++) {
            dueRow("without a, c", x, law, 1);
        }
        due("withdraw(1, 1)", x.withdraw(1, 1), 3);
        for (int law = 0; law < 4; law++) {
            dueRow("without all", x, law);
        }
        due("withdraw(0, 0)", x.withdraw(0, 0), 2);
        dueRow("a again", x, 1, 0);
    }

    private static void p11Prefer() {
        LoadCouncil x = laid("n4;odcba;");
        due("prefer(4)", x.prefer(4), BAD);
        due("prefer(-1)", x.prefer(-1), BAD);
        due("prefer(3)", x.prefer(3), NO);
        due("no change", x.count(5), 0);
        due("prefer(1)", x.prefer(1), 2);
        int[] places = {3, 0, 2, 1};
        for (int c = 0; c < 4; c++) {
            due("place of " + c, x.candidate(c, 1), places[c]);
        }
        due("prefer(0)", x.prefer(0), 3);
        due("prefer(0) again", x.prefer(0), NO);
        due("prefer(1) again", x.prefer(1), 1);
        dueRow("by rank", x, 0, 1, 0, 3);
    }

    private static void p12Undo() {
        LoadCouncil x = laid("n3;b2,a;k1;");
        due("undo of nothing", x.undo(), NO);
        for (int k = 2; k <= 8; k++) {
            due("seats(" + k + ")", x.seats(k), k - 1);
            due("changes", x.count(5), Math.min(k - 1, 6));
        }
        due("refused", x.seats(8), NO);
        due("refused changes nothing", x.count(5), 6);
        for (int left = 5; left >= 0; left--) {
            due("undo", x.undo(), left);
            due("seats behind undo", x.count(3), left + 2);
        }
        due("undo of the seventh", x.undo(), NO);
        due("seats stay", x.count(3), 2);
        x.seats(5);
        x.seats(6);
        due("undo", x.undo(), 1);
        x.seats(7);
        due("undo of the newer one", x.undo(), 1);
        due("seats", x.count(3), 5);
        due("undo", x.undo(), 0);
        due("seats", x.count(3), 2);
    }

    private static void p12UndoOfEachChange() {
        LoadCouncil x = laid("n3;b2,ab;k1;obac;");
        x.ballot(4, 7);
        x.voters(0, 5);
        x.approve(0, 4);
        x.seats(2);
        x.withdraw(1, 1);
        x.prefer(2);
        due("undo of prefer", x.undo(), 5);
        due("rank b", x.candidate(1, 1), 0);
        due("rank a", x.candidate(0, 1), 1);
        due("rank c", x.candidate(2, 1), 2);
        due("still withdrawn", x.count(4), 1);
        due("undo of withdraw", x.undo(), 4);
        due("none withdrawn", x.count(4), 0);
        due("still 2 seats", x.count(3), 2);
        due("undo of seats", x.undo(), 3);
        due("1 seat", x.count(3), 1);
        due("still c", x.vote(0, 1), 4);
        due("undo of approve", x.undo(), 2);
        due("ab again", x.vote(0, 1), 3);
        due("still 5", x.vote(0, 0), 5);
        due("undo of voters", x.undo(), 1);
        due("2 again", x.vote(0, 0), 2);
        due("still 2 ballots", x.count(1), 2);
        due("undo of ballot", x.undo(), 0);
        due("1 ballot", x.count(1), 1);
        due("2 voters", x.count(2), 2);
        due("that ballot is none", x.vote(1, 0), BAD);
        due("text stays", x.count(6), 17);
    }

    private static void p13Candidate() {
        LoadCouncil x = laid("n4;b3,a;b2,ab;b2,c;k2;ocbad;");
        int[] support = {5, 2, 2, 0};
        int[] place = {2, 1, 0, 3};
        int[] laws = {15, 0, 15, 0};
        for (int c = 0; c < 4; c++) {
            due("candidate(" + c + ", 0)", x.candidate(c, 0), support[c]);
            due("candidate(" + c + ", 1)", x.candidate(c, 1), place[c]);
            due("candidate(" + c + ", 2)", x.candidate(c, 2), 0);
            due("candidate(" + c + ", 3)", x.candidate(c, 3), laws[c]);
        }
        x.prefer(1);
        due("b by most alone", x.candidate(1, 3), 2);
        due("c by all others", x.candidate(2, 3), 13);
        due("candidate(4, 0)", x.candidate(4, 0), BAD);
        due("candidate(-1, 0)", x.candidate(-1, 0), BAD);
        due("candidate(0, 4)", x.candidate(0, 4), BAD);
        due("candidate(0, -1)", x.candidate(0, -1), BAD);
    }

    private static void p14Vote() {
        LoadCouncil x = laid("n4;b3,abc;b2,d;k3;");
        int[] first = {3, 0b111, 2, 3, 2, 2};
        int[] second = {2, 0b1000, 1, 0, 1, 1};
        for (int what = 0; what < 6; what++) {
            due("vote(0, " + what + ")", x.vote(0, what), first[what]);
            due("vote(1, " + what + ")", x.vote(1, what), second[what]);
        }
        due("vote(2, 0)", x.vote(2, 0), BAD);
        due("vote(-1, 0)", x.vote(-1, 0), BAD);
        due("vote(0, 6)", x.vote(0, 6), BAD);
        due("vote(0, -1)", x.vote(0, -1), BAD);
    }

    private static void p15Member() {
        LoadCouncil x = laid("n4;b3,abc;b2,d;k4;");
        // a at 1/3, d at 1/2 ahead of b at 2/3, c at 1; weights 3, 2 ahead of 3/2, 1.
        dueRow("loads", x, 0, 0, 3, 1, 2);
        dueRow("most", x, 1, 0, 1, 2, 3);
        dueRow("halving", x, 2, 0, 3, 1, 2);
        dueRow("buying", x, 3, 0, 3, 1, 2);
        due("member(0, -2)", x.member(0, -2), BAD);
        due("member(-1, 0)", x.member(-1, 0), BAD);
        due("member(4, 0)", x.member(4, 0), BAD);
        due("member(4, 9)", x.member(4, 9), BAD);
        due("member(0, max)", x.member(0, Integer.MAX_VALUE), NONE);
        LoadCouncil y = laid(TIES);
        dueRow("rank abc", y, 0, 0, 1);
        dueRow("rank abc", y, 2, 0, 1);
        dueRow("rank abc", y, 3, 0, 1);
        y.prefer(2);
        dueRow("rank cab", y, 0, 0, 2);
        dueRow("rank cab", y, 1, 0, 1);
        dueRow("rank cab", y, 2, 0, 2);
        dueRow("rank cab", y, 3, 0, 2);
        // d at 1/10, a at (1 + 6/10) / 6, then c at (1 + 4/10) / 4 = 7/20 ahead of b at 13/30;
        // weights 10, 3, then b and c of 2 alike.
        LoadCouncil z = laid("n4;b6,abd;b4,cd;k3;");
        dueRow("loads", z, 0, 3, 0, 2);
        dueRow("most", z, 1, 3, 0, 1);
        dueRow("halving", z, 2, 3, 0, 1);
        dueRow("buying", z, 3, 3, 0, 2);
    }

    private static void p15WithoutSupport() {
        LoadCouncil x = laid("n4;b1,d;k4;obcad;");
        for (int law = 0; law < 4; law++) {
            dueRow("d first", x, law, 3, 1, 2, 0);
            dueCame(x, law, 0, 1, 1);
            due("b came by nothing", x.came(law, 1, 0), NONE);
            due("a came by nothing", x.came(law, 3, 1), NONE);
        }
        x.withdraw(2, 1);
        x.seats(2);
        dueRow("d, b", x, 0, 3, 1);
        LoadCouncil y = laid("n2;k1;oba;");
        for (int law = 0; law < 4; law++) {
            dueRow("no ballots", y, law, 1);
        }
    }

    private static void p16Members() {
        LoadCouncil x = laid("n4;b3,abc;b2,d;k3;");
        due("members(0)", x.members(0), 0b1011);
        due("members(1)", x.members(1), 0b0111);
        due("members(2)", x.members(2), 0b1011);
        due("members(3)", x.members(3), 0b1011);
        due("members(4)", x.members(4), BAD);
        due("members(-1)", x.members(-1), BAD);
        for (int c = 0; c < 4; c++) {
            x.withdraw(c, 1);
        }
        due("members of none", x.members(0), 0);
    }

    private static void p17Came() {
        LoadCouncil x = laid("n4;b3,abc;b2,d;k3;");
        for (int law = 0; law < 4; law += 3) {
            dueCame(x, law, 0, 1, 3);
            dueCame(x, law, 1, 1, 2);
            dueCame(x, law, 2, 2, 3);
        }
        dueCame(x, 1, 0, 3, 1);
        dueCame(x, 1, 2, 3, 1);
        dueCame(x, 2, 0, 3, 1);
        dueCame(x, 2, 1, 2, 1);
        dueCame(x, 2, 2, 3, 2);
        due("came(0, 3, 0)", x.came(0, 3, 0), NONE);
        due("came(0, max, 0)", x.came(0, Integer.MAX_VALUE, 0), NONE);
        due("came(0, -1, 0)", x.came(0, -1, 0), BAD);
        due("came(4, 0, 0)", x.came(4, 0, 0), BAD);
        due("came(-1, 0, 0)", x.came(-1, 0, 0), BAD);
        due("came(0, 0, 2)", x.came(0, 0, 2), BAD);
        due("came(0, 0, -1)", x.came(0, 0, -1), BAD);
        due("came(0, 9, 2), BAD first", x.came(0, 9, 2), BAD);
        x.seats(2);
        due("came of the third, no longer a member", x.came(0, 2, 0), NONE);
        LoadCouncil y = laid("n8;b1,abcdefgh;k8;");
        for (int i = 0; i < 8; i++) {
            dueCame(y, 0, i, i + 1, 1);
            dueCame(y, 1, i, 1, 1);
            dueCame(y, 2, i, 1, i + 1);
            dueCame(y, 3, i, i + 1, 1);
        }
    }

    private static void p17CameOfGreatNumbers() {
        // Cross products of two such fractions have no room in 64 bits.
        LoadCouncil x = laid("n8;b2,bcfh;b4,beg;b2,abdefh;b3,bdefgh;b6,abdfg;b4,abdefgh;b4,acef;b5,abd;b5,abfh;"
            + "b5,acdefg;k8;");
        dueCame(x, 0, 7, 16701127331L, 63442913600L);
        dueCame(x, 3, 7, 16701127331L, 63442913600L);
        due("greatest(0)", x.greatest(0), 16701127331L);
        due("greatest(1)", x.greatest(1), 63442913600L);
    }

    private static void p18Load() {
        LoadCouncil x = laid("n4;b3,ab;b2,bc;b1,d;k2;");
        // b at 1/5 on the first two, then a at (1 + 3/5) / 3 = 8/15, c at (1 + 2/5) / 2 = 7/10, d at 1.
        dueLoad(x, 0, 8, 15);
        dueLoad(x, 1, 1, 5);
        dueLoad(x, 2, 0, 1);
        due("load(3, 0)", x.load(3, 0), BAD);
        due("load(-1, 0)", x.load(-1, 0), BAD);
        due("load(0, 2)", x.load(0, 2), BAD);
        due("load(0, -1)", x.load(0, -1), BAD);
        x.seats(4);
        dueLoad(x, 1, 7, 10);
        dueLoad(x, 2, 1, 1);
    }

    private static void p19Greatest() {
        LoadCouncil x = laid("n4;b3,ab;b2,bc;b1,d;k2;");
        due("greatest(0)", x.greatest(0), 8);
        due("greatest(1)", x.greatest(1), 15);
        due("greatest(2)", x.greatest(2), BAD);
        due("greatest(-1)", x.greatest(-1), BAD);
        x.withdraw(0, 1);
        due("greatest(0) without a", x.greatest(0), 7);
        due("greatest(1) without a", x.greatest(1), 10);
        LoadCouncil y = laid("n2;");
        due("greatest(0) without voters", y.greatest(0), 0);
        due("greatest(1) without voters", y.greatest(1), 1);
    }

    private static void p20Agrees() {
        LoadCouncil x = laid("n4;b3,abc;b2,ad;b1,d;k4;");
        due("agrees(a)", x.agrees(1, 0), 5);
        due("agrees(ab)", x.agrees(3, 0), 3);
        due("agrees(bd)", x.agrees(10, 0), 0);
        // 3 voters of 6 have 2 of 4 seats, but not 3.
        due("ab is owed", x.agrees(3, 1), 1);
        due("abc is not", x.agrees(7, 1), 0);
        due("bd is not", x.agrees(10, 1), 0);
        due("d is", x.agrees(8, 1), 1);
        x.seats(3);
        due("ab is not owed of 3", x.agrees(3, 1), 0);
        due("b is owed of 3", x.agrees(2, 1), 1);
        // MOST elects a, b, c; the others a, b, d. Those who agree to b approve of a, b, c; to d, of a, d.
        for (int what = 2; what < 6; what++) {
            due("a, what = " + what, x.agrees(1, what), 3);
            due("b, what = " + what, x.agrees(2, what), what == 3 ? 3 : 2);
            due("bd, what = " + what, x.agrees(10, what), 0);
            due("d, what = " + what, x.agrees(8, what), what == 3 ? 1 : 2);
        }
        x.withdraw(1, 1);
        due("withdrawn ones, too", x.agrees(2, 1), 1);
        due("agrees(0, 0)", x.agrees(0, 0), BAD);
        due("agrees(16, 0)", x.agrees(16, 0), BAD);
        due("agrees(-1, 0)", x.agrees(-1, 0), BAD);
        due("agrees(1, 6)", x.agrees(1, 6), BAD);
        due("agrees(1, -1)", x.agrees(1, -1), BAD);
        LoadCouncil y = laid("n1;");
        due("no voters, none owed", y.agrees(1, 1), 0);
        y.ballot(1, 1);
        due("one voter, one owed", y.agrees(1, 1), 1);
    }

    private static void p21Shorts() {
        // By MOST all three seats go to abc, and the 2 of 6 who want d, e are owed one.
        LoadCouncil x = laid("n5;b4,abc;b2,de;k3;");
        due("shorts(1, -1)", x.shorts(1, -1), 2);
        due("shorts(1, 0)", x.shorts(1, 0), 8);
        due("shorts(1, 1)", x.shorts(1, 1), 16);
        due("shorts(1, 2)", x.shorts(1, 2), NONE);
        due("shorts(0, -1)", x.shorts(0, -1), 0);
        due("shorts(0, 0)", x.shorts(0, 0), NONE);
        due("shorts(0, -2)", x.shorts(0, -2), BAD);
        due("shorts(4, -1)", x.shorts(4, -1), BAD);
        due("shorts(-1, -1)", x.shorts(-1, -1), BAD);
        x.withdraw(3, 1);
        x.withdraw(4, 1);
        due("withdrawn ones are short", x.shorts(0, 1), 16);
        LoadCouncil y = laid("n2;b2,ab;k2;");
        y.withdraw(1, 1);
        due("ab is short of one", y.shorts(3, 0), 3);
        due("ab alone", y.shorts(3, -1), 1);
        y.withdraw(0, 1);
        due("a is short, too", y.shorts(3, 0), 1);
        due("b is short, too", y.shorts(3, 1), 2);
        due("all three", y.shorts(3, -1), 3);
    }

    private static void p22Joins() {
        LoadCouncil x = laid("n3;b4,a;b3,b;b1,c;k1;");
        for (int law = 0; law < 4; law++) {
            due("joins a", x.joins(law, 0), 0);
            due("joins b", x.joins(law, 1), 2);
            due("joins c", x.joins(law, 2), 4);
        }
        x.prefer(1);
        due("joins b, first in rank", x.joins(0, 1), 1);
        due("joins(4, 0)", x.joins(4, 0), BAD);
        due("joins(-1, 0)", x.joins(-1, 0), BAD);
        due("joins(0, 3)", x.joins(0, 3), BAD);
        due("joins(0, -1)", x.joins(0, -1), BAD);
        x.withdraw(0, 1);
        due("joins of a withdrawn one", x.joins(0, 0), NO);
        due("BAD first", x.joins(4, 0), BAD);
        due("b now", x.joins(0, 1), 0);
        due("nothing changed", x.count(1), 3);
    }

    private static void p22JoinsBeyondLimits() {
        LoadCouncil x = laid("n2;b20,a;b1,b;k1;");
        due("with 20 behind", x.joins(1, 1), 20);
        x.voters(1, 2);
        due("with 19", x.joins(1, 1), 19);
        LoadCouncil y = laid("n3;b20,a;b20,ab;k1;");
        due("20 and 20 are 40, alike", y.joins(1, 1), NONE);
        y.prefer(1);
        due("first in rank with 20", y.joins(1, 1), 20);
        LoadCouncil z = laid("n2;" + "b1,a;".repeat(10) + "k1;");
        due("an eleventh ballot", z.joins(0, 1), 11);
        due("still ten", z.count(1), 10);
    }

    private static void p23Matters() {
        LoadCouncil x = laid("n3;b3,a;b2,b;b2,c;k2;");
        // With one voter fewer for b, c is a member in its place; c is none as it is.
        due("matters", x.matters(1), 0b010);
        due("matters by loads", x.matters(0), 0b010);
        due("matters(4)", x.matters(4), BAD);
        due("matters(-1)", x.matters(-1), BAD);
        due("voters stay", x.vote(1, 0), 2);
        LoadCouncil y = laid("n3;b1,c;b2,b;k2;");
        // Without its one voter c has no support, and a is ahead of it by rank.
        for (int law = 0; law < 4; law++) {
            due("matters of the only voter", y.matters(law), 0b01);
        }
        due("ballots stay", y.count(1), 2);
        LoadCouncil z = laid("n3;");
        due("matters without ballots", z.matters(0), 0);
        z.ballot(1, 4);
        z.seats(1);
        due("matters of a new ballot", z.matters(0), 0b1);
        due("matters of a new object", new LoadCouncil().matters(0), 0b110000);
    }

    private static void p24Rather() {
        // As it is: a and then c (c at 1/2, b at 2/3). Telling b alone gets b beside a.
        LoadCouncil x = laid("n3;b1,ab;b2,a;b2,c;k2;");
        due("as it is", x.members(0), 0b101);
        due("rather set", x.rather(0, 0, 0), NONE);
        LoadCouncil y = laid("n3;b3,ab;b2,a;b2,c;k2;oabc;");
        // a at 1/5; b at (1 + 3/5) / 3 = 8/15 behind c at 1/2. By b alone: b at 1/3, a at 1/2 by rank.
        due("as it is", y.members(0), 0b101);
        due("rather b", y.rather(0, 0, 0), 0b010);
        due("both of it", y.rather(0, 0, 1), 2);
        due("same by money", y.rather(3, 0, 0), 0b010);
        due("nothing changed", y.vote(0, 1), 0b011);
        due("as it is", y.members(0), 0b101);
        due("most does not ask for it", y.rather(1, 0, 0), NONE);
        due("nor tell how many", y.rather(1, 0, 1), NONE);
        y.prefer(1);
        // By a alone: a at 1/5, c at 1/2, b without support. By b alone: a and c alike at 1/2, a first.
        due("rather b still", y.rather(0, 0, 0), 0b010);
        y.approve(0, 0b101);
        due("c and a as it is", y.rather(0, 0, 0), NONE);
        dueRatherOfA();
        due("rather(4, 0, 0)", y.rather(4, 0, 0), BAD);
        due("rather(-1, 0, 0)", y.rather(-1, 0, 0), BAD);
        due("rather(0, 3, 0)", y.rather(0, 3, 0), BAD);
        due("rather(0, -1, 0)", y.rather(0, -1, 0), BAD);
        due("rather(0, 0, 2)", y.rather(0, 0, 2), BAD);
        due("rather(0, 0, -1)", y.rather(0, 0, -1), BAD);
    }

    private static void dueRatherOfA() {
        // The same with a for b and c for a: own set ac, told as a alone.
        LoadCouncil x = laid("n3;b3,ac;b2,c;b2,b;k2;ocab;");
        due("as it is", x.members(0), 0b110);
        due("rather a", x.rather(0, 0, 0), 0b001);
        due("both of it", x.rather(0, 0, 1), 2);
        due("of a new object", new LoadCouncil().rather(0, 1, 0), 0b101);
        due("of a new object", new LoadCouncil().rather(0, 1, 1), 3);
    }

    private static void p25Decided() {
        LoadCouncil x = laid(TIES);
        due("decided(0)", x.decided(0), 1);
        due("decided(1)", x.decided(1), 0);
        due("decided(2)", x.decided(2), 1);
        due("decided(3)", x.decided(3), 1);
        due("decided(4)", x.decided(4), BAD);
        due("decided(-1)", x.decided(-1), BAD);
        due("rank stays", x.candidate(2, 1), 2);
        x.seats(1);
        due("a or b", x.decided(1), 1);
        x.seats(3);
        due("all of them", x.decided(0), 0);
        LoadCouncil y = laid("n3;k1;");
        y.withdraw(0, 1);
        y.withdraw(2, 1);
        due("only b is left", y.decided(0), 0);
    }

    private static void p26Both() {
        LoadCouncil x = laid("n4;b3,abc;b2,d;k3;");
        due("both(0, 0)", x.both(0, 0), 3);
        due("both(0, 1)", x.both(0, 1), 2);
        due("both(1, 0)", x.both(1, 0), 2);
        due("both(2, 3)", x.both(2, 3), 3);
        due("both(4, 0)", x.both(4, 0), BAD);
        due("both(0, 4)", x.both(0, 4), BAD);
        due("both(-1, 0)", x.both(-1, 0), BAD);
        due("both(0, -1)", x.both(0, -1), BAD);
    }

    private static void p27Count() {
        LoadCouncil x = laid("n5;b7,ab;b6,c;k2;");
        x.withdraw(4, 1);
        x.withdraw(3, 1);
        int[] counts = {5, 2, 13, 2, 2, 2, 17};
        for (int what = 0; what < counts.length; what++) {
            due("count(" + what + ")", x.count(what), counts[what]);
        }
        due("count(7)", x.count(7), BAD);
        due("count(-1)", x.count(-1), BAD);
    }
}
