/** The sentences of "Terms" that name a boundary, each on both sides of it; by hand. */
public final class TermsEdgesTest {
    private static final int BAD = LoadCouncil.BAD;
    private static final int NO = LoadCouncil.NO;
    private static final int FULL = LoadCouncil.FULL;
    private static final int NONE = LoadCouncil.NONE;

    public static void main(String[] args) {
        candidatesAre1To8();
        ballotsAre10AtMost();
        votersOfABallotAre1To20();
        votersInAllAre40AtMost();
        setsHaveOneAtLeast();
        seatsAre1To8();
        rankIs01AtFirst();
        noneIsWithdrawnAtFirst();
        theTextHas200AtMost();
        itemsAtTheVeryEnd();
        aSemicolonBehindEachItem();
        numbersHaveOneOrTwoFigures();
        candidatesAreToldOnceAndFirst();
        lettersOfABallotRise();
        seatsOfSeveralTheLast();
        rankNamesAllOnce();
        rankOfSeveralTheLast();
        faultIsTheFirstOne();
        laidNeedsCandidates();
        ballotsMayBeNone();
        supportIsOfVoters();
        theTextStaysWhenLaid();
        Check.end();
    }

    private static void good(String text) {
        Told.written(text).keeps("fault()", NONE).due("lay()", text.charAt(text.charAt(1) == '0' ? 2 : 1) - '0')
            .keeps("fault()", NONE);
    }

    private static void faulty(int place, String... texts) {
        for (String text : texts) {
            Told.written(text).keeps("fault()", place).keeps("lay()", NO);
        }
    }

    /** CANDIDATES 0, 1, .. (1 to 8). */
    private static void candidatesAre1To8() {
        good("n1;");
        good("n8;");
        faulty(0, "n0;", "n9;", "n00;", "n09;", "n10;", "n18;", "n81;", "n99;");
        Told.laid("n1;").keeps("candidate(0, 1)", 0).keeps("candidate(1, 1)", BAD)
            .keeps("agrees(1, 0)", 0).keeps("agrees(2, 0)", BAD);
        Told.laid("n8;").keeps("candidate(7, 1)", 7).keeps("candidate(8, 1)", BAD)
            .keeps("agrees(255, 0)", 0).keeps("agrees(256, 0)", BAD);
    }

    /** BALLOTS 0, 1, .. (10 at most). */
    private static void ballotsAre10AtMost() {
        String nine = "n2;" + "b1,a;".repeat(9);
        good(nine);
        good(nine + "b1,b;");
        good(nine + "b1,b;k2;");
        faulty(53, nine + "b1,b;b1,b;", nine + "b1,b;b1,b;k2;", nine + "b1,b;b1,b;k9;");
        Told.laid(nine).keeps("vote(8, 0)", 1).keeps("vote(9, 0)", BAD)
            .due("ballot(1, 2)", 9).keeps("vote(9, 0)", 1).keeps("vote(10, 0)", BAD)
            .keeps("ballot(1, 2)", FULL).due("undo()", 0).due("ballot(2, 3)", 9)
            .due("vote(9, 0)", 2).due("vote(9, 1)", 3).keeps("ballot(1, 1)", FULL);
        Told.laid(nine + "b1,b;").keeps("ballot(1, 2)", FULL).due("count(1)", 10);
    }

    /** Each of V VOTERS (1 to 20). */
    private static void votersOfABallotAre1To20() {
        good("n1;b1,a;");
        good("n1;b20,a;");
        faulty(3, "n1;b0,a;", "n1;b00,a;", "n1;b21,a;", "n1;b30,a;", "n1;b99,a;");
        Told.laid("n1;").keeps("ballot(0, 1)", BAD).keeps("ballot(21, 1)", BAD)
            .due("ballot(1, 1)", 0).due("ballot(20, 1)", 1).due("vote(0, 0)", 1).due("vote(1, 0)", 20);
        Told.laid("n1;b7,a;").keeps("voters(0, 0)", BAD).keeps("voters(0, 21)", BAD)
            .due("voters(0, 1)", 7).due("voters(0, 20)", 1).due("vote(0, 0)", 20);
    }

    /** 40 VOTERS in all at most. */
    private static void votersInAllAre40AtMost() {
        good("n2;b20,a;b20,b;");
        good("n2;b20,a;b19,b;b1,a;");
        faulty(15, "n2;b20,a;b20,b;b1,a;", "n2;b20,a;b19,b;b2,a;", "n2;b20,a;b20,b;b1,a;k9;",
            "n2;b20,a;b19,b;b2,a;b1,a;");
        Told.laid("n2;b20,a;b19,b;").keeps("ballot(2, 1)", FULL).keeps("ballot(20, 1)", FULL)
            .due("ballot(1, 1)", 2).due("count(2)", 40).keeps("ballot(1, 1)", FULL);
        Told.laid("n2;b20,a;b10,b;b9,ab;").keeps("voters(1, 12)", FULL).keeps("voters(1, 20)", FULL)
            .due("voters(1, 11)", 10).due("count(2)", 40).keeps("voters(2, 10)", FULL)
            .due("voters(0, 19)", 20).due("voters(2, 10)", 9).due("count(2)", 40);
        Told.laid("n1;b20,a;b20,a;").due("voters(0, 1)", 20).due("voters(0, 20)", 1).keeps("ballot(1, 1)", FULL);
    }

    /** A set of CANDIDATES (one at least; as bits). */
    private static void setsHaveOneAtLeast() {
        good("n3;b1,a;");
        good("n3;b1,abc;");
        faulty(3, "n3;b1,;", "n3;b1;");
        Told.laid("n3;b1,b;").keeps("ballot(1, 0)", BAD).keeps("ballot(1, 8)", BAD)
            .due("ballot(1, 1)", 1).due("ballot(1, 7)", 2).due("vote(1, 1)", 1).due("vote(2, 1)", 7)
            .keeps("approve(0, 0)", BAD).keeps("approve(0, 8)", BAD)
            .due("approve(0, 1)", 2).due("approve(0, 7)", 1)
            .keeps("agrees(0, 0)", BAD).keeps("agrees(8, 0)", BAD)
            .keeps("agrees(1, 0)", 3).keeps("agrees(7, 0)", 2);
        Told.laid("n8;b1,ah;").due("vote(0, 1)", 129).keeps("ballot(1, 256)", BAD).due("ballot(1, 255)", 1);
    }

    /** There are SEATS (1 to 8). K SEATS (3 without). */
    private static void seatsAre1To8() {
        good("n2;k1;");
        good("n2;k8;");
        faulty(3, "n2;k0;", "n2;k9;", "n2;k00;", "n2;k09;", "n2;k10;", "n2;k18;", "n2;k80;", "n2;k99;");
        Told.laid("n2;k1;").due("count(3)", 1).keeps("seats(0)", BAD).keeps("seats(9)", BAD)
            .due("seats(8)", 1).due("seats(1)", 8);
        Told.laid("n2;k8;").due("count(3)", 8);
        Told.laid("n2;").due("count(3)", 3);
        Told.laid("n2;k8;").write("b1,a;").due("wipe()", 11).write("n2;b1,a;").due("lay()", 2).due("count(3)", 3);
    }

    /** RANK is a row of all CANDIDATES (0, 1, .. at first). */
    private static void rankIs01AtFirst() {
        Told.fresh().rank(0, 1, 2, 3, 4, 5);
        Told.laid("n1;").rank(0);
        Told.laid("n8;").rank(0, 1, 2, 3, 4, 5, 6, 7);
        Told.fresh().due("prefer(5)", 5).write("n8;").due("lay()", 8).rank(0, 1, 2, 3, 4, 5, 6, 7);
    }

    /** CANDIDATES can be WITHDRAWN (none at first). */
    private static void noneIsWithdrawnAtFirst() {
        Told.fresh().due("count(4)", 0).due("candidate(0, 2)", 0).due("candidate(5, 2)", 0);
        Told.fresh().due("withdraw(0, 1)", 1).due("withdraw(5, 1)", 2).write("n6;").due("lay()", 6)
            .due("count(4)", 0).due("candidate(0, 2)", 0).due("candidate(5, 2)", 0).rows(0, 1, 2);
    }

    /** THE TEXT is letters (200 at most). */
    private static void theTextHas200AtMost() {
        String of198 = "n8;" + "k4;".repeat(65);
        Told.written(of198).due("count(6)", 198).due("write(107)", 199).due("write(52)", 200)
            .keeps("fault()", 198).keeps("write(59)", FULL).keeps("fault()", 198).keeps("lay()", NO);
        String of200 = "n8;" + "k4;".repeat(63) + "k04;k05;";
        Told.written(of200).due("count(6)", 200).keeps("write(32)", FULL).keeps("write(126)", FULL)
            .keeps("fault()", NONE).due("lay()", 8).due("count(3)", 5).keeps("write(59)", FULL)
            .due("wipe()", 200).due("write(110)", 1);
    }

    /** The last letters that there can be: nothing behind them is looked at. */
    private static void itemsAtTheVeryEnd() {
        String of195 = "n8;" + "k4;".repeat(64);
        for (String end : new String[] {"b1,a;", "b20,h"}) {
            boolean ends = end.endsWith(";");
            Told.written(of195 + end).due("count(6)", 200).due("fault()", ends ? NONE : 195)
                .due("lay()", ends ? 8 : NO).due("count(1)", ends ? 1 : 6);
        }
        for (String end : new String[] {"b1111", "b1;;;", "bbbb;", "b1;  ", "b1,;;", "b1,aa", "b1,ab", "oabc;", "oabcd",
            "ooooo", "k1111", "k111;", "k;;;;", ",,,,,", ";;;;;", "n8;k4", "nnnnn"}) {
            Told.written(of195 + end).due("count(6)", 200).due("fault()", 195).due("lay()", NO);
        }
        Told.written(of195 + "k4;k4").due("fault()", 198).due("lay()", NO);
        Told.written(of195 + "k4;b1").due("fault()", 198).due("lay()", NO);
    }

    /** A TEXT is ITEMS one behind the other, a ; behind each. */
    private static void aSemicolonBehindEachItem() {
        faulty(0, "n", "n3", "n3k1;", ";", ";;", ";n3;", " n3;", "n3 ;", "n3,;", "n3b1,a;", "n3:");
        good("n3;");
        faulty(3, "n3;;", "n3;k1", "n3;k", "n3;b", "n3;b1", "n3;b1,", "n3;b1,a", "n3;o", "n3;oabc", "n3;k1k2;",
            "n3; ", "n3; k1;", "n3;k1 ;", "n3;k1,", "n3;oabc,", "n3;oabc ;", "n3;b1,a ;", "n3;b1, a;", "n3;b1 ,a;");
        good("n3;k1;b1,a;oabc;");
        faulty(6, "n3;k1;;", "n3;k1;k1", "n3;k1; ");
    }

    /** Numbers have one or two figures. */
    private static void numbersHaveOneOrTwoFigures() {
        good("n5;");
        good("n05;");
        faulty(0, "n;", "n005;", "n5a;", "na;", "n-5;", "n+5;", "n/;", "n:;", "n0/;", "n1.;");
        good("n1;b5,a;");
        good("n1;b05,a;");
        good("n1;b19,a;");
        faulty(3, "n1;b,a;", "n1;b005,a;", "n1;b-5,a;", "n1;b0:,a;", "n1;b1/,a;", "n1;b1:,a;", "n1;b:,a;",
            "n1;b/9,a;", "n1;b 5,a;", "n1;ba,a;", "n1;b1a,a;");
        good("n1;k5;");
        good("n1;k05;");
        faulty(3, "n1;k;", "n1;k005;", "n1;k-5;", "n1;k+5;", "n1;k1.;", "n1;k/;", "n1;k:;", "n1;ka;");
        Told.laid("n1;b05,a;b09,a;b10,a;k08;").due("vote(0, 0)", 5).due("vote(1, 0)", 9).due("vote(2, 0)", 10)
            .due("count(3)", 8);
    }

    /** nN: there are N CANDIDATES; once, first of all ITEMS. */
    private static void candidatesAreToldOnceAndFirst() {
        good("n3;k1;");
        faulty(3, "n3;n3;", "n3;n4;", "n3;n;");
        faulty(6, "n3;k1;n3;");
        faulty(8, "n3;oabc;n3;");
        faulty(0, "k1;", "k1;n3;", "b1,a;", "b1,a;n3;", "oa;", "oabc;n3;", "N3;", "3;", "x3;");
        faulty(3, "n3;N3;", "n3;K1;", "n3;B1,a;", "n3;OABC;", "n3;x;", "n3;l1;", "n3;j1;", "n3;pabc;", "n3;c1,a;",
            "n3;a1,a;", "n3;3;");
    }

    /** S: letters of CANDIDATES, rising. */
    private static void lettersOfABallotRise() {
        good("n3;b1,a;b1,b;b1,c;b1,ab;b1,ac;b1,bc;b1,abc;");
        faulty(3, "n3;b1,aa;", "n3;b1,ba;", "n3;b1,cb;", "n3;b1,aab;", "n3;b1,abb;", "n3;b1,acb;", "n3;b1,bca;",
            "n3;b1,d;", "n3;b1,e;", "n3;b1,z;", "n3;b1,~;", "n3;b1,abcd;", "n3;b1,`;", "n3;b1,A;", "n3;b1,a,b;",
            "n3;b1,,a;", "n3;b1,1;", "n3;b1a;", "n3;b1.a;");
        good("n8;b1,abcdefgh;");
        good("n8;b1,h;");
        faulty(3, "n8;b1,i;", "n8;b1,abcdefghi;", "n1;b1,b;");
        Told.laid("n3;b1,a;b1,b;b1,c;b1,ac;b1,abc;").due("vote(0, 1)", 1).due("vote(1, 1)", 2)
            .due("vote(2, 1)", 4).due("vote(3, 1)", 5).due("vote(4, 1)", 7);
    }

    /** kK: of several the last one counts. */
    private static void seatsOfSeveralTheLast() {
        Told.laid("n2;k8;k1;").due("count(3)", 1);
        Told.laid("n2;k1;b1,a;k2;oba;k7;").due("count(3)", 7);
        Told.laid("n2;k4;k4;").due("count(3)", 4);
        faulty(6, "n2;k8;k9;", "n2;k8;k9;k1;");
        faulty(3, "n2;k9;k8;");
    }

    /** oR: letters of all CANDIDATES, each once. */
    private static void rankNamesAllOnce() {
        good("n1;oa;");
        faulty(3, "n1;o;", "n1;oaa;", "n1;ob;", "n1;oab;", "n1;o`;");
        good("n3;oabc;");
        good("n3;ocab;");
        faulty(3, "n3;oab;", "n3;oaba;", "n3;oabb;", "n3;occa;", "n3;oabd;", "n3;oabe;", "n3;oabz;",
            "n3;o~bc;", "n3;odbc;", "n3;oabcd;", "n3;oabca;", "n3;oABC;", "n3;o`bc;", "n3;o123;");
        good("n8;ohgfedcba;");
        faulty(3, "n8;ohgfedcb;", "n8;ohgfedcbb;", "n8;oihgfedcb;", "n8;oihgfedcba;");
        Told.laid("n3;ocab;").rank(2, 0, 1);
        Told.laid("n8;ohagbfced;").rank(7, 0, 6, 1, 5, 2, 4, 3);
    }

    /** oR: of several the last one counts. */
    private static void rankOfSeveralTheLast() {
        Told.laid("n3;ocba;obca;").rank(1, 2, 0);
        Told.laid("n3;ocba;k1;b1,a;oabc;").rank(0, 1, 2);
        faulty(8, "n3;ocba;oaab;", "n3;ocba;oaab;oabc;");
    }

    /** FAULT: the place of the first letter of the first ITEM that is not so. */
    private static void faultIsTheFirstOne() {
        faulty(0, "n9;k9;", "x;y;");
        faulty(3, "n3;k9;b0,a;", "n3;b0,a;k9;", "n3;oab;n3;");
        faulty(11, "n3;k1;b1,a;b1,d;k9;");
        faulty(13, "n3;k1;b1,abc;oabcd;", "n3;k1;b1,abc;~");
        String ten = "n1;" + "b1,a;".repeat(10);
        faulty(53, ten + "b1,a;k9;", ten + "k9;b1,a;", ten + "b0,a;");
        faulty(3, "n1;k9;" + "b1,a;".repeat(11));
    }

    /** LAID is a TEXT without FAULT that tells of CANDIDATES (NO else). */
    private static void laidNeedsCandidates() {
        Told.fresh().keeps("fault()", NONE).keeps("lay()", NO);
        Told.written("n3;").due("wipe()", 3).keeps("fault()", NONE).keeps("lay()", NO);
        Told.fresh().due("seats(1)", 4).due("withdraw(2, 1)", 1).due("prefer(3)", 3).write("n2;b1,c;")
            .keeps("lay()", NO).due("count(5)", 3).due("wipe()", 8).keeps("lay()", NO).due("undo()", 2);
        Told.written("n2;b1,c;").keeps("lay()", NO).due("wipe()", 8).write("n2;b1,b;").due("lay()", 2);
        Told.written("n2").keeps("lay()", NO).due("write(59)", 3).due("lay()", 2);
    }

    /** BALLOTS may be none. */
    private static void ballotsMayBeNone() {
        Told.laid("n3;").due("count(1)", 0).due("count(2)", 0).keeps("vote(0, 0)", BAD).keeps("load(0, 0)", BAD)
            .keeps("voters(0, 1)", BAD).keeps("approve(0, 1)", BAD).keeps("rather(0, 0, 0)", BAD)
            .greatest(0, 1).rows(0, 1, 2).due("matters(0)", 0).due("agrees(1, 0)", 0).due("shorts(0, -1)", 0);
        Told.laid("n3;").due("ballot(2, 4)", 0).rows(2, 0, 1).due("undo()", 0).rows(0, 1, 2);
        Told.laid("n1;b1,a;").due("vote(0, 0)", 1).due("vote(1, 0)", BAD);
    }

    /** SUPPORT of a CANDIDATE: how many VOTERS APPROVE of it. */
    private static void supportIsOfVoters() {
        Told.laid("n4;b20,abc;b19,ab;b1,a;").due("candidate(0, 0)", 40).due("candidate(1, 0)", 39)
            .due("candidate(2, 0)", 20).due("candidate(3, 0)", 0)
            .due("withdraw(0, 1)", 1).due("candidate(0, 0)", 40);
    }

    /** THE TEXT stays when it is LAID. */
    private static void theTextStaysWhenLaid() {
        Told.laid("n2;b1,a;").due("count(6)", 8).due("fault()", NONE).due("seats(7)", 3).due("lay()", 2)
            .due("count(3)", 3).write("k5;").due("count(6)", 11).due("count(3)", 3)
            .due("lay()", 2).due("count(3)", 5).due("wipe()", 11).due("count(3)", 5);
    }
}
