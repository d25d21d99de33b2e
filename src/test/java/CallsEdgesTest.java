/**
 * The promises in their order: each refusal that one names, with the same call just inside of it, and that
 * nothing has changed behind what was refused or only asked; by hand.
 */
public final class CallsEdgesTest {
    private static final int BAD = LoadCouncil.BAD;
    private static final int NO = LoadCouncil.NO;
    private static final int FULL = LoadCouncil.FULL;
    private static final int NONE = LoadCouncil.NONE;
    private static final int MAX = Integer.MAX_VALUE;

    /** a of 4 voters, b of 3, c of 1; d of none. */
    private static final String FOUR = "n4;b3,ab;b1,ac;k2;";

    public static void main(String[] args) {
        p01NewObject();
        p02Write();
        p03Wipe();
        p04Fault();
        p05Lay();
        p06Ballot();
        p07Voters();
        p08Approve();
        p09Seats();
        p10Withdraw();
        p11Prefer();
        p12Undo();
        p12UndoOfTheLastSix();
        p12UndoOfEachKind();
        p12UndoBehindRefusedCalls();
        p12UndoBehindLaid();
        p13Candidate();
        p14Vote();
        p15Member();
        p16Members();
        p17Came();
        p18Load();
        p19Greatest();
        p20Agrees();
        p21Shorts();
        p22Joins();
        p23Matters();
        p24Rather();
        p25Decided();
        p26Both();
        p27Count();
        ofSeveralBadFirst();
        ofSeveralNoBeforeNone();
        askedOfWhatStands();
        askedAgain();
        objectsAreApart();
        Check.end();
    }

    private static void p01NewObject() {
        int[] counts = {6, 6, 29, 4, 0, 0, 0};
        int[] voters = {9, 6, 5, 4, 3, 2};
        int[] sets = {0b11, 0b111, 0b1100, 0b11000, 0b100000, 0b110000};
        Told x = Told.fresh();
        for (int what = 0; what < counts.length; what++) {
            x.keeps("count(" + what + ")", counts[what]);
        }
        for (int b = 0; b < 6; b++) {
            x.due("vote(" + b + ", 0)", voters[b]).due("vote(" + b + ", 1)", sets[b]);
        }
        x.keeps("vote(6, 0)", BAD).keeps("candidate(6, 0)", BAD).keeps("fault()", NONE).keeps("lay()", NO)
            .keeps("undo()", NO).due("wipe()", 0);
    }

    private static void p02Write() {
        Told.fresh().keeps("write(31)", BAD).due("write(32)", 1).due("write(126)", 2).keeps("write(127)", BAD)
            .keeps("write(-1)", BAD).keeps("write(0)", BAD).keeps("write(" + (256 + 'n') + ")", BAD)
            .keeps("write(" + (65536 + 'n') + ")", BAD).due("count(6)", 2).keeps("undo()", NO);
        Told full = Told.fresh();
        for (int i = 1; i <= 200; i++) {
            full.due("write(32)", i);
        }
        full.keeps("write(32)", FULL).keeps("write(126)", FULL).keeps("write(31)", BAD).keeps("write(127)", BAD)
            .due("count(6)", 200);
    }

    private static void p03Wipe() {
        Told.fresh().due("wipe()", 0).due("write(110)", 1).due("wipe()", 1).due("wipe()", 0).due("count(6)", 0);
        Told.laid("n2;b1,a;").due("seats(2)", 3).due("wipe()", 8).due("count(0)", 2).due("count(1)", 1)
            .due("count(3)", 2).due("count(5)", 1).keeps("fault()", NONE).keeps("lay()", NO);
        Told.written("n9;").due("fault()", 0).due("wipe()", 3).due("fault()", NONE).write("n8;").due("fault()", NONE)
            .due("lay()", 8);
    }

    private static void p04Fault() {
        Told.fresh().keeps("fault()", NONE).due("write(110)", 1).keeps("fault()", 0).due("write(51)", 2)
            .keeps("fault()", 0).due("write(59)", 3).keeps("fault()", NONE).due("write(59)", 4).keeps("fault()", 3);
        Told.laid(FOUR).due("withdraw(1, 1)", 1).write("k9;").keeps("fault()", FOUR.length()).due("count(4)", 1);
    }

    private static void p05Lay() {
        Told.fresh().keeps("lay()", NO).write("n1;").due("lay()", 1).write("k").keeps("lay()", NO)
            .write("8;").due("lay()", 1).due("count(3)", 8);
        Told.laid(FOUR).due("withdraw(1, 1)", 1).due("seats(8)", 2).due("ballot(1, 8)", 2).due("prefer(3)", 3)
            .due("voters(0, 9)", 3).due("approve(1, 15)", 0b101).due("lay()", 4)
            .due("count(1)", 2).due("count(2)", 4).due("count(3)", 2).due("count(4)", 0).due("count(5)", 0)
            .due("vote(0, 0)", 3).due("vote(1, 1)", 0b101).rank(0, 1, 2, 3).keeps("undo()", NO);
        // Fewer candidates and ballots than there were are not there any more.
        Told.fresh().write("n2;b1,a;").due("lay()", 2).keeps("candidate(1, 1)", 1).keeps("candidate(2, 1)", BAD)
            .keeps("vote(0, 0)", 1).keeps("vote(1, 0)", BAD).keeps("agrees(3, 0)", 0).keeps("agrees(4, 0)", BAD);
        // Nor does what was asked of the greater one leave a trace: nobody approves of b.
        Told.fresh().due("joins(0, 4)", 2).due("decided(0)", 0).write("n2;b1,a;").due("lay()", 2)
            .keeps("agrees(2, 0)", 0).keeps("agrees(2, 2)", 0).keeps("candidate(1, 0)", 0).greatest(1, 1)
            .due("matters(0)", 0).due("ballot(1, 2)", 1).keeps("agrees(2, 2)", 1);
    }

    private static void p06Ballot() {
        Told.laid("n3;").keeps("ballot(0, 1)", BAD).keeps("ballot(21, 1)", BAD).keeps("ballot(1, 0)", BAD)
            .keeps("ballot(1, 8)", BAD).keeps("ballot(-1, -1)", BAD).due("ballot(1, 1)", 0).due("ballot(20, 7)", 1)
            .keeps("ballot(20, 1)", FULL).due("ballot(19, 1)", 2).keeps("ballot(1, 1)", FULL)
            .keeps("ballot(0, 1)", BAD).keeps("ballot(1, 8)", BAD).due("count(5)", 3);
        Told ten = Told.laid("n1;");
        for (int b = 0; b < 10; b++) {
            ten.due("ballot(1, 1)", b);
        }
        ten.keeps("ballot(1, 1)", FULL).keeps("ballot(0, 1)", BAD).keeps("ballot(1, 2)", BAD).due("count(2)", 10)
            .due("undo()", 5).due("count(1)", 9).due("ballot(20, 1)", 9);
    }

    private static void p07Voters() {
        Told.laid("n2;b20,a;b10,b;b9,ab;").keeps("voters(-1, 1)", BAD).keeps("voters(3, 1)", BAD)
            .keeps("voters(0, 0)", BAD).keeps("voters(0, 21)", BAD).keeps("voters(0, 20)", NO)
            .keeps("voters(1, 10)", NO).keeps("voters(2, 9)", NO).keeps("voters(1, 12)", FULL)
            .keeps("voters(2, 11)", FULL).due("voters(2, 10)", 9).keeps("voters(1, 11)", FULL)
            .keeps("voters(0, 20)", NO).due("voters(0, 19)", 20).due("voters(1, 11)", 10)
            .due("voters(2, 1)", 10).due("voters(1, 20)", 11).due("count(5)", 5).due("count(2)", 40);
    }

    private static void p08Approve() {
        Told.laid("n3;b2,ab;b1,c;").keeps("approve(-1, 1)", BAD).keeps("approve(2, 1)", BAD)
            .keeps("approve(0, 0)", BAD).keeps("approve(0, 8)", BAD).keeps("approve(0, 3)", NO)
            .keeps("approve(1, 4)", NO).due("approve(0, 4)", 3).due("approve(1, 3)", 4)
            .keeps("approve(0, 4)", NO).due("approve(0, 7)", 4).due("vote(0, 1)", 7).due("vote(1, 1)", 3)
            .due("count(5)", 3);
    }

    private static void p09Seats() {
        Told.laid("n2;").keeps("seats(0)", BAD).keeps("seats(9)", BAD).keeps("seats(3)", NO)
            .due("seats(1)", 3).keeps("seats(1)", NO).due("seats(8)", 1).keeps("seats(8)", NO)
            .due("seats(3)", 8).due("count(3)", 3).due("count(5)", 3);
    }

    private static void p10Withdraw() {
        Told.laid("n3;b1,b;").keeps("withdraw(-1, 1)", BAD).keeps("withdraw(3, 1)", BAD)
            .keeps("withdraw(0, -1)", BAD).keeps("withdraw(0, 2)", BAD).keeps("withdraw(0, 0)", NO)
            .keeps("withdraw(2, 0)", NO).due("withdraw(2, 1)", 1).keeps("withdraw(2, 1)", NO)
            .due("withdraw(0, 1)", 2).due("withdraw(1, 1)", 3).keeps("withdraw(1, 1)", NO)
            .due("withdraw(2, 0)", 2).keeps("withdraw(2, 0)", NO).due("candidate(2, 2)", 0)
            .due("candidate(0, 2)", 1).due("count(5)", 4);
    }

    private static void p11Prefer() {
        Told.laid("n4;").keeps("prefer(-1)", BAD).keeps("prefer(4)", BAD).keeps("prefer(0)", NO)
            .due("prefer(1)", 1).rank(1, 0, 2, 3).keeps("prefer(1)", NO).due("prefer(3)", 3).rank(3, 1, 0, 2)
            .due("prefer(0)", 2).rank(0, 3, 1, 2).due("prefer(2)", 3).rank(2, 0, 3, 1).due("count(5)", 4);
        Told.laid("n1;").keeps("prefer(0)", NO).keeps("prefer(1)", BAD);
        Told.laid("n8;").due("prefer(7)", 7).rank(7, 0, 1, 2, 3, 4, 5, 6).keeps("prefer(8)", BAD);
        Told.laid("n3;").due("withdraw(2, 1)", 1).due("prefer(2)", 2).rank(2, 0, 1).rows(0, 1);
    }

    private static void p12Undo() {
        Told.fresh().keeps("undo()", NO).due("seats(1)", 4).due("undo()", 0).keeps("undo()", NO).due("count(3)", 4)
            .due("seats(2)", 4).due("seats(3)", 2).due("undo()", 1).due("seats(5)", 2).due("undo()", 1)
            .due("count(3)", 2).due("undo()", 0).due("count(3)", 4).keeps("undo()", NO);
    }

    /** UNDONE is the latest change (the last 6 can be). */
    private static void p12UndoOfTheLastSix() {
        Told x = Told.laid("n1;k1;");
        for (int k = 2; k <= 6; k++) {
            x.due("seats(" + k + ")", k - 1).due("count(5)", k - 1);
        }
        x.again().due("seats(7)", 6).due("count(5)", 6).due("undo()", 5).due("undo()", 4).due("undo()", 3)
            .due("undo()", 2).due("undo()", 1).due("undo()", 0).due("count(3)", 1).keeps("undo()", NO);
        x.due("seats(7)", 6).due("seats(8)", 7).due("count(5)", 6).due("undo()", 5).due("count(3)", 7)
            .due("undo()", 4).due("undo()", 3).due("undo()", 2).due("undo()", 1).due("undo()", 0)
            .due("count(3)", 2).keeps("undo()", NO).due("seats(1)", 2).due("undo()", 0).due("count(3)", 2);
        // 20 changes go round the last 6 more than three times.
        Told many = Told.laid("n1;k1;");
        for (int i = 0; i < 20; i++) {
            many.due("seats(" + (i % 8 + 2 > 8 ? 1 : i % 8 + 2) + ")", i % 8 + 1);
        }
        many.due("count(3)", 5).due("undo()", 5).due("count(3)", 4).due("undo()", 4).due("undo()", 3)
            .due("undo()", 2).due("count(3)", 1).due("undo()", 1).due("count(3)", 8).due("undo()", 0)
            .due("count(3)", 7).keeps("undo()", NO);
    }

    /** A change: a BALLOT more, its VOTERS, its set, SEATS, one WITHDRAWN or not, one to the front of RANK. */
    private static void p12UndoOfEachKind() {
        Told.laid(FOUR).due("ballot(2, 8)", 2).due("undo()", 0).due("count(1)", 2).due("count(2)", 4)
            .keeps("vote(2, 0)", BAD);
        Told.laid(FOUR).due("voters(1, 20)", 1).due("undo()", 0).due("vote(1, 0)", 1).due("count(2)", 4);
        Told.laid(FOUR).due("approve(1, 15)", 0b101).due("undo()", 0).due("vote(1, 1)", 0b101);
        Told.laid(FOUR).due("seats(8)", 2).due("undo()", 0).due("count(3)", 2);
        Told.laid(FOUR).due("withdraw(3, 1)", 1).due("undo()", 0).due("candidate(3, 2)", 0).due("count(4)", 0);
        Told.laid(FOUR).due("withdraw(3, 1)", 1).due("withdraw(3, 0)", 0).due("undo()", 1)
            .due("candidate(3, 2)", 1).due("count(4)", 1);
        Told.laid(FOUR).due("prefer(2)", 2).due("undo()", 0).rank(0, 1, 2, 3);
        // Neither letters nor their wiping are changes.
        Told.laid(FOUR).due("seats(8)", 2).due("wipe()", FOUR.length()).write("n1;").due("undo()", 0)
            .due("count(6)", 3).due("count(3)", 2);
    }

    private static void p12UndoBehindRefusedCalls() {
        Told.laid("n2;b20,a;b20,b;k1;").due("prefer(1)", 1).due("seats(2)", 1).keeps("seats(2)", NO)
            .keeps("ballot(1, 1)", FULL).keeps("voters(0, 20)", NO).keeps("approve(0, 1)", NO)
            .keeps("withdraw(0, 0)", NO).keeps("prefer(1)", NO).keeps("seats(9)", BAD).keeps("write(31)", BAD)
            .due("count(5)", 2).due("undo()", 1).due("count(3)", 1).due("undo()", 0).rank(0, 1);
    }

    /** Behind LAID none can be; a TEXT that is not laid leaves them. */
    private static void p12UndoBehindLaid() {
        Told.laid("n2;").due("seats(1)", 3).due("seats(2)", 1).write("k").keeps("lay()", NO).due("count(5)", 2)
            .write("4;").due("lay()", 2).due("count(5)", 0).keeps("undo()", NO).due("count(3)", 4)
            .due("seats(5)", 4).due("undo()", 0).due("count(3)", 4).keeps("undo()", NO);
    }

    private static void p13Candidate() {
        Told.laid(FOUR).keeps("candidate(-1, 0)", BAD).keeps("candidate(4, 0)", BAD).keeps("candidate(0, -1)", BAD)
            .keeps("candidate(0, 4)", BAD).keeps("candidate(0, 0)", 4).keeps("candidate(3, 0)", 0)
            .keeps("candidate(3, 1)", 3).keeps("candidate(3, 2)", 0).keeps("candidate(0, 3)", 15)
            .keeps("candidate(1, 3)", 15).keeps("candidate(2, 3)", 0).keeps("candidate(3, 3)", 0)
            .due("withdraw(3, 1)", 1).keeps("candidate(3, 2)", 1).due("withdraw(0, 1)", 2)
            .keeps("candidate(0, 0)", 4).keeps("candidate(0, 1)", 0).keeps("candidate(0, 3)", 0)
            .keeps("candidate(2, 3)", 15);
        // b by MOST alone, d by all others.
        Told.laid("n4;b3,abc;b2,d;k2;").keeps("candidate(1, 3)", 0b0010).keeps("candidate(3, 3)", 0b1101);
        // Behind d, a: c by loads and money, b by support and weights.
        Told.laid("n4;b6,abd;b4,cd;k3;").keeps("candidate(2, 3)", 0b1001).keeps("candidate(1, 3)", 0b0110);
    }

    private static void p14Vote() {
        Told.laid("n4;b6,abd;b4,cd;k3;").keeps("vote(-1, 0)", BAD).keeps("vote(2, 0)", BAD).keeps("vote(0, -1)", BAD)
            .keeps("vote(0, 6)", BAD).keeps("vote(0, 0)", 6).keeps("vote(1, 0)", 4).keeps("vote(0, 1)", 0b1011)
            .keeps("vote(1, 1)", 0b1100).keeps("vote(0, 2)", 2).keeps("vote(0, 3)", 3).keeps("vote(0, 4)", 3)
            .keeps("vote(0, 5)", 2).keeps("vote(1, 2)", 2).keeps("vote(1, 3)", 1).keeps("vote(1, 4)", 1)
            .keeps("vote(1, 5)", 2).due("withdraw(2, 1)", 1).due("withdraw(3, 1)", 2)
            .keeps("vote(1, 1)", 0b1100).keeps("vote(1, 2)", 0).keeps("vote(1, 5)", 0);
    }

    private static void p15Member() {
        for (int law = 0; law < 4; law++) {
            String call = "member(" + law + ", ";
            Told.laid(FOUR).keeps(call + "-2)", BAD).keeps(call + "-1)", 2).keeps(call + "0)", 0)
                .keeps(call + "1)", 1).keeps(call + "2)", NONE).keeps(call + MAX + ")", NONE)
                .due("seats(8)", 2).keeps(call + "-1)", 4).keeps(call + "3)", 3).keeps(call + "4)", NONE)
                .keeps(call + "7)", NONE).keeps(call + "8)", NONE);
        }
        Told.laid(FOUR).keeps("member(-1, 0)", BAD).keeps("member(4, 0)", BAD).keeps("member(4, -1)", BAD);
        Told.laid("n1;").due("withdraw(0, 1)", 1).keeps("member(0, -1)", 0).keeps("member(0, 0)", NONE);
    }

    private static void p16Members() {
        Told.laid("n4;b6,abd;b4,cd;k3;").keeps("members(-1)", BAD).keeps("members(4)", BAD)
            .keeps("members(0)", 0b1101).keeps("members(1)", 0b1011).keeps("members(2)", 0b1011)
            .keeps("members(3)", 0b1101);
        Told.laid("n8;k8;").keeps("members(0)", 255).due("withdraw(7, 1)", 1).keeps("members(0)", 127);
        Told.laid("n1;").keeps("members(3)", 1).due("withdraw(0, 1)", 1).keeps("members(3)", 0);
    }

    private static void p17Came() {
        for (int law = 0; law < 4; law++) {
            String call = "came(" + law + ", ";
            Told.laid("n3;b1,a;b1,b;k2;").keeps(call + "-1, 0)", BAD).keeps(call + "0, -1)", BAD)
                .keeps(call + "0, 2)", BAD).keeps(call + "0, 0)", 1).keeps(call + "1, 1)", 1)
                .keeps(call + "2, 0)", NONE).keeps(call + "2, 1)", NONE).keeps(call + MAX + ", 1)", NONE)
                .due("seats(8)", 2).keeps(call + "2, 0)", NONE).due("ballot(1, 4)", 2).keeps(call + "2, 0)", 1)
                .keeps(call + "3, 0)", NONE).keeps(call + "7, 0)", NONE).keeps(call + "8, 0)", NONE);
        }
        Told.laid("n1;b1,a;").keeps("came(-1, 0, 0)", BAD).keeps("came(4, 0, 0)", BAD);
        Told.laid("n8;b1,abcdefgh;k8;").keeps("came(0, 7, 0)", 8).keeps("came(0, 8, 0)", NONE)
            .due("seats(7)", 8).keeps("came(0, 6, 0)", 7).keeps("came(0, 7, 0)", NONE);
    }

    private static void p18Load() {
        Told.laid("n2;b4,a;b3,b;k1;").keeps("load(-1, 0)", BAD).keeps("load(2, 0)", BAD).keeps("load(0, -1)", BAD)
            .keeps("load(0, 2)", BAD).keeps("load(0, 0)", 1).keeps("load(0, 1)", 4).keeps("load(1, 0)", 0)
            .keeps("load(1, 1)", 1);
        Told.laid("n1;").keeps("load(0, 0)", BAD).due("ballot(2, 1)", 0).keeps("load(0, 1)", 2);
    }

    private static void p19Greatest() {
        Told.laid("n2;b4,a;b3,b;k1;").keeps("greatest(-1)", BAD).keeps("greatest(2)", BAD).keeps("greatest(0)", 1)
            .keeps("greatest(1)", 4).due("seats(2)", 1).keeps("greatest(1)", 3);
        Told.laid("n1;").keeps("greatest(0)", 0).keeps("greatest(1)", 1);
        // The greatest one is of a middle ballot, then of the last one.
        Told.laid("n3;b4,a;b2,b;b3,c;k3;").greatest(1, 2).due("voters(2, 1)", 3).greatest(1, 1);
        // There are more ballots than candidates and seats: the fourth bears most, then the tenth.
        Told.laid("n2;b4,a;b4,a;b4,a;b1,b;k2;").greatest(1, 1).due("seats(1)", 2).greatest(1, 12);
        Told.laid("n2;" + "b4,a;".repeat(9) + "b2,b;k2;").greatest(1, 2).due("withdraw(1, 1)", 1).greatest(1, 36);
    }

    private static void p20Agrees() {
        Told.laid("n4;b6,abd;b4,cd;k3;").keeps("agrees(-1, 0)", BAD).keeps("agrees(0, 0)", BAD)
            .keeps("agrees(16, 0)", BAD).keeps("agrees(1, -1)", BAD).keeps("agrees(1, 6)", BAD)
            .keeps("agrees(1, 0)", 6).keeps("agrees(15, 0)", 0).keeps("agrees(8, 0)", 10)
            .keeps("agrees(1, 1)", 1).keeps("agrees(15, 1)", 0).keeps("agrees(3, 1)", 0).keeps("agrees(4, 2)", 2)
            .keeps("agrees(4, 3)", 1).keeps("agrees(4, 4)", 1).keeps("agrees(4, 5)", 2).keeps("agrees(8, 2)", 3)
            .keeps("agrees(15, 3)", 0);
    }

    private static void p21Shorts() {
        Told.laid("n5;b4,abc;b2,de;k3;").keeps("shorts(-1, -1)", BAD).keeps("shorts(4, -1)", BAD)
            .keeps("shorts(1, -2)", BAD).keeps("shorts(1, -1)", 2).keeps("shorts(1, 0)", 8).keeps("shorts(1, 1)", 16)
            .keeps("shorts(1, 2)", NONE).keeps("shorts(1, " + MAX + ")", NONE).keeps("shorts(3, -1)", 0)
            .keeps("shorts(3, 0)", NONE);
    }

    private static void p22Joins() {
        Told.laid("n3;b4,a;b3,b;k1;").keeps("joins(-1, 0)", BAD).keeps("joins(4, 0)", BAD).keeps("joins(0, -1)", BAD)
            .keeps("joins(0, 3)", BAD).keeps("joins(0, 0)", 0).keeps("joins(1, 1)", 2).keeps("joins(2, 2)", 5)
            .due("withdraw(0, 1)", 1).keeps("joins(3, 0)", NO).keeps("joins(3, 1)", 0).keeps("joins(3, 2)", 4)
            .due("withdraw(0, 0)", 0).keeps("joins(3, 0)", 0);
        Told.laid("n2;b20,a;b1,a;k1;").keeps("joins(0, 1)", NONE).due("voters(0, 18)", 20).keeps("joins(0, 1)", 20);
    }

    private static void p23Matters() {
        Told.laid("n3;b3,a;b2,b;b2,c;k2;").keeps("matters(-1)", BAD).keeps("matters(4)", BAD)
            .keeps("matters(0)", 2).keeps("matters(1)", 2).keeps("matters(2)", 2).keeps("matters(3)", 2)
            .due("seats(3)", 2).keeps("matters(0)", 0);
    }

    private static void p24Rather() {
        Told.laid("n3;b3,ab;b2,a;b2,c;k2;").keeps("rather(-1, 0, 0)", BAD).keeps("rather(4, 0, 0)", BAD)
            .keeps("rather(0, -1, 0)", BAD).keeps("rather(0, 3, 0)", BAD).keeps("rather(0, 0, -1)", BAD)
            .keeps("rather(0, 0, 2)", BAD).keeps("rather(0, 0, 0)", 2).keeps("rather(0, 0, 1)", 2)
            .keeps("rather(0, 2, 0)", NONE).keeps("rather(0, 2, 1)", NONE);
    }

    private static void p25Decided() {
        Told.laid("n2;b1,a;b1,b;k1;").keeps("decided(-1)", BAD).keeps("decided(4)", BAD).keeps("decided(0)", 1)
            .keeps("decided(3)", 1).due("voters(0, 2)", 1).keeps("decided(0)", 0).keeps("decided(3)", 0);
    }

    private static void p26Both() {
        Told.laid("n4;b6,abd;b4,cd;k3;").keeps("both(-1, 0)", BAD).keeps("both(0, -1)", BAD).keeps("both(4, 0)", BAD)
            .keeps("both(0, 4)", BAD).keeps("both(0, 0)", 3).keeps("both(3, 3)", 3).keeps("both(0, 1)", 2)
            .keeps("both(1, 0)", 2).keeps("both(1, 2)", 3).keeps("both(2, 3)", 2).keeps("both(3, 0)", 3);
        Told.laid("n1;").keeps("both(1, 1)", 1).due("withdraw(0, 1)", 1).keeps("both(1, 1)", 0);
    }

    private static void p27Count() {
        Told.laid(FOUR).keeps("count(-1)", BAD).keeps("count(7)", BAD).keeps("count(0)", 4).keeps("count(1)", 2)
            .keeps("count(2)", 4).keeps("count(3)", 2).keeps("count(4)", 0).keeps("count(5)", 0)
            .keeps("count(6)", FOUR.length()).due("withdraw(0, 1)", 1).due("withdraw(1, 1)", 2)
            .due("ballot(5, 1)", 2).keeps("count(1)", 3).keeps("count(2)", 9).keeps("count(4)", 2)
            .keeps("count(5)", 3);
    }

    /** Of several the first in this order: BAD ahead of NO, NONE, FULL. */
    private static void ofSeveralBadFirst() {
        String full = "n2;" + "b4,a;".repeat(10);
        Told.laid(full).keeps("ballot(4, 1)", FULL).keeps("ballot(21, 1)", BAD).keeps("ballot(4, 4)", BAD)
            .keeps("voters(0, 5)", FULL).keeps("voters(10, 5)", BAD).keeps("voters(0, 21)", BAD)
            .keeps("voters(10, 4)", BAD).keeps("approve(10, 1)", BAD).keeps("approve(0, 4)", BAD)
            .due("withdraw(0, 1)", 1).keeps("joins(4, 0)", BAD).keeps("joins(0, 2)", BAD)
            .keeps("withdraw(0, 2)", BAD).keeps("withdraw(2, 1)", BAD).keeps("withdraw(2, 0)", BAD);
        Told.laid("n2;b1,a;").keeps("member(4, 9)", BAD).keeps("came(4, 9, 0)", BAD).keeps("came(0, 9, 2)", BAD)
            .keeps("came(0, 1, 2)", BAD).keeps("shorts(4, 9)", BAD).keeps("rather(4, 0, 0)", BAD)
            .keeps("rather(0, 0, 2)", BAD).keeps("rather(0, 1, 0)", BAD);
    }

    /** NO ahead of NONE: a withdrawn one that 20 would not bring in, either. */
    private static void ofSeveralNoBeforeNone() {
        Told.laid("n2;b20,a;b20,a;k1;").keeps("joins(0, 1)", NONE).due("withdraw(1, 1)", 1).keeps("joins(0, 1)", NO)
            .keeps("joins(4, 1)", BAD);
    }

    /** What is asked is of what was laid and changed since, whatever THE TEXT tells by then. */
    private static void askedOfWhatStands() {
        String[] texts = {"n1;", "n8;b20,h;b1,g;k1;ohgfedcba;", "n4;b1,a;b1,b;k1;odcba;"};
        for (String text : texts) {
            Told changed = Told.laid("n4;b1,abd;b4,c;k2;odcba;").due("voters(0, 6)", 1).due("approve(1, 12)", 4)
                .due("seats(3)", 2).due("prefer(2)", 1).due("prefer(1)", 2).due("prefer(0)", 3).rank(0, 1, 2, 3);
            wandered(changed, text);
            changed.due("vote(0, 2)", 2).due("vote(0, 3)", 3).due("vote(0, 4)", 3).due("vote(0, 5)", 2)
                .due("vote(1, 2)", 2).due("vote(1, 3)", 1).due("vote(1, 4)", 1).due("vote(1, 5)", 2)
                .due("candidate(1, 3)", 0b0110).due("candidate(2, 3)", 0b1001).due("agrees(4, 2)", 2)
                .due("agrees(4, 3)", 1).due("both(0, 1)", 2).due("both(1, 2)", 3).due("both(2, 3)", 2)
                .due("both(3, 0)", 3).row(0, 3, 0, 2).row(1, 3, 0, 1).row(2, 3, 0, 1).row(3, 3, 0, 2)
                .came(0, 2, 7, 20).load(0, 4, 15).load(1, 7, 20).greatest(7, 20)
                .due("joins(0, 1)", 1).due("joins(1, 2)", 3).due("joins(2, 2)", 1).due("matters(0)", 2)
                .due("matters(1)", 0).due("matters(2)", 1).due("decided(0)", 1).due("decided(1)", 0);
            Told groups = Told.laid("n5;b4,abc;b2,d;k4;").due("approve(1, 24)", 8).due("seats(3)", 4);
            wandered(groups, text);
            groups.due("shorts(1, -1)", 2).due("shorts(1, 0)", 8).due("shorts(1, 1)", 16).due("agrees(24, 0)", 2)
                .due("agrees(24, 1)", 0).due("agrees(16, 1)", 1).due("members(0)", 0b01011);
            Told sets = Told.laid("n3;b3,b;b2,a;b2,c;k1;").due("approve(0, 3)", 2).due("seats(2)", 1);
            wandered(sets, text);
            sets.due("rather(0, 0, 0)", 0b010).due("rather(0, 0, 1)", 2).due("rather(1, 0, 0)", NONE);
        }
    }

    private static void wandered(Told told, String text) {
        told.answer("wipe()");
        told.write(text).due("fault()", NONE);
    }

    /** No answer leaves a trace in a later one, not even the eleventh ballot that JOINS thinks of. */
    private static void askedAgain() {
        Told x = Told.laid("n3;" + "b1,a;".repeat(5) + "b1,b;".repeat(5) + "k2;");
        for (int round = 0; round < 3; round++) {
            for (int law = 0; law < 4; law++) {
                x.due("joins(" + law + ", 2)", 6).due("joins(" + law + ", 0)", 0).due("joins(" + law + ", 2)", 6)
                    .row(law, 0, 1).due("matters(" + law + ")", 0).due("decided(" + law + ")", 0)
                    .due("rather(" + law + ", 9, 0)", NONE);
            }
            x.load(0, 1, 5).load(9, 1, 5).greatest(1, 5);
        }
        x.due("prefer(2)", 2);
        for (int law = 0; law < 4; law++) {
            x.due("joins(" + law + ", 2)", 5);
        }
    }

    private static void objectsAreApart() {
        Told x = Told.laid(FOUR).due("seats(7)", 2).due("withdraw(0, 1)", 1).due("prefer(3)", 3);
        Told.fresh().due("count(0)", 6).due("count(3)", 4).due("count(6)", 0).due("members(0)", 0b101011);
        x.due("count(0)", 4).due("count(3)", 7).due("count(4)", 1).due("members(0)", 0b1110).due("undo()", 2);
    }
}
