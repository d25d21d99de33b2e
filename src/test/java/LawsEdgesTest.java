/** The boundaries of the four LAWS, of groups, and of what would be, each on both sides; by hand. */
public final class LawsEdgesTest {
    private static final int NO = LoadCouncil.NO;
    private static final int NONE = LoadCouncil.NONE;

    public static void main(String[] args) {
        tillThereAreAsManyAsSeats();
        orNoneIsLeft();
        ofThoseThatAreNotWithdrawn();
        withoutSupportBehindAll();
        alikeByRank();
        alikeByFractions();
        loadsOfAllBeforeAreBorne();
        mostBySupport();
        halvingByMembersSoFar();
        buyingOfSeveralAtOneTime();
        cameInLowestTerms();
        withoutSupportByNothing();
        loadsInTheEnd();
        agreesByAllOfIt();
        owedExactlyOrMore();
        owedByOneAtLeast();
        shortOfOne();
        shortCountsWhatSomeApprove();
        joins0To20();
        joinsBeyondLimits();
        mattersByOneVoterFewer();
        mattersAsASet();
        ratherOnlyIfMore();
        ratherTheLeastOfTheMost();
        ratherOfOneAtLeast();
        ratherOfOneThatIsWithdrawn();
        decidedAsASet();
        Check.end();
    }

    /** .. till there are as many as SEATS .. */
    private static void tillThereAreAsManyAsSeats() {
        String three = "n3;b3,a;b2,b;b1,c;";
        Told.laid(three + "k1;").rows(0);
        Told.laid(three + "k2;").rows(0, 1);
        Told.laid(three + "k3;").rows(0, 1, 2);
        Told.laid("n8;b1,abcdefgh;k7;").rows(0, 1, 2, 3, 4, 5, 6);
        Told.laid("n8;b1,abcdefgh;k8;").rows(0, 1, 2, 3, 4, 5, 6, 7);
    }

    /** .. or none is left. */
    private static void orNoneIsLeft() {
        Told.laid("n3;b3,a;b2,b;b1,c;k4;").rows(0, 1, 2);
        Told.laid("n1;b1,a;k8;").rows(0).due("members(0)", 1).due("member(0, 1)", NONE);
        Told.laid("n1;k8;").rows(0).due("withdraw(0, 1)", 1).rows().due("members(3)", 0).due("member(2, 0)", NONE);
        Told.laid("n8;k8;").rows(0, 1, 2, 3, 4, 5, 6, 7).due("member(1, 8)", NONE);
    }

    /** MEMBERS are elected of CANDIDATES that are not WITHDRAWN. */
    private static void ofThoseThatAreNotWithdrawn() {
        Told.laid("n3;b3,a;b2,b;b1,c;k2;").due("withdraw(0, 1)", 1).rows(1, 2)
            .due("withdraw(1, 1)", 2).rows(2).due("withdraw(2, 1)", 3).rows()
            .due("withdraw(0, 0)", 2).rows(0).due("withdraw(1, 0)", 1).rows(0, 1);
        // A withdrawn one leaves neither load nor weight behind.
        Told.laid("n3;b3,ab;b2,c;k1;").due("withdraw(0, 1)", 1).rows(1).came(0, 0, 1, 3).came(2, 0, 3, 1)
            .greatest(1, 3);
    }

    /** Those without SUPPORT come behind all that have some, by RANK. */
    private static void withoutSupportBehindAll() {
        Told.laid("n3;b1,c;k1;").rows(2);
        Told.laid("n3;b1,c;k2;").rows(2, 0);
        Told.laid("n3;b1,c;k2;obac;").rows(2, 1);
        Told.laid("n3;b1,c;k3;obac;").rows(2, 1, 0);
        Told.laid("n3;b1,ab;k3;ocab;").rows(0, 1, 2);
        Told.laid("n3;b1,ab;k2;ocab;").rows(0, 1);
        Told.laid("n3;b1,ab;k2;ocab;").due("withdraw(1, 1)", 1).rows(0, 2);
        Told.laid("n3;k2;ocba;").rows(2, 1).due("ballot(1, 1)", 0).rows(0, 2);
    }

    /** Of several that are alike the one that is earliest in RANK comes first. */
    private static void alikeByRank() {
        Told.laid("n2;b3,a;b3,b;k1;").rows(0);
        Told.laid("n2;b3,a;b3,b;k1;oba;").rows(1);
        Told.laid("n2;b3,a;b4,b;k1;").rows(1);
        Told.laid("n2;b4,a;b3,b;k1;oba;").rows(0);
        Told.laid("n2;b20,a;b19,b;k1;oba;").rows(0);
        Told.laid("n3;b1,a;b1,b;b1,c;k1;obca;").rows(1).due("prefer(2)", 1).rows(2).due("prefer(0)", 2).rows(0);
        Told.laid("n3;b2,a;b2,b;b2,c;k3;ocab;").rows(2, 0, 1);
    }

    /** The same for the second seat, where what is alike are fractions: b has 2/2 and c 1/1. */
    private static void alikeByFractions() {
        int[] fractions = {0, 2, 3};
        for (int law : fractions) {
            Told.laid("n3;b2,ab;b1,c;k2;").row(law, 0, 1);
            Told.laid("n3;b2,ab;b1,c;k2;ocab;").row(law, 0, 2);
            Told.laid("n3;b3,ab;b1,c;k2;ocab;").row(law, 0, 1);
            Told.laid("n3;b3,ab;b2,c;k2;").row(law, 0, 2);
            Told.laid("n4;b3,abc;b1,d;k3;").row(law, 0, 1, 2);
            Told.laid("n4;b3,abc;b1,d;k3;odabc;").row(law, 0, 1, 3);
            Told.laid("n4;b4,abc;b1,d;k3;odabc;").row(law, 0, 1, 2);
            Told.laid("n4;b5,abc;b2,d;k3;").row(law, 0, 1, 3);
        }
        Told.laid("n3;b2,ab;b1,c;k2;ocab;").row(1, 0, 1);
    }

    /** NEW LOAD is 1 and the LOADS of all VOTERS who APPROVE of it, together, by its SUPPORT. */
    private static void loadsOfAllBeforeAreBorne() {
        // d at 1/10, a at (1 + 6/10) / 6 = 4/15, c at (1 + 4/10) / 4 = 7/20 ahead of b at (1 + 24/15) / 6 = 13/30.
        for (int law = 0; law < 4; law += 3) {
            Told.laid("n4;b6,abd;b4,cd;k4;").row(law, 3, 0, 2, 1)
                .came(law, 0, 1, 10).came(law, 1, 4, 15).came(law, 2, 7, 20).came(law, 3, 13, 30);
        }
        Told.laid("n4;b6,abd;b4,cd;k4;").load(0, 13, 30).load(1, 7, 20).greatest(13, 30);
        Told.laid("n4;b6,abd;b4,cd;k2;").load(0, 4, 15).load(1, 1, 10).greatest(4, 15);
        Told.laid("n8;b1,abcdefgh;k8;").came(0, 7, 8, 1).load(0, 8, 1).greatest(8, 1);
        Told.laid("n8;b20,abcdefgh;b20,abcdefgh;k8;").came(0, 7, 1, 5).came(0, 6, 7, 40).load(1, 1, 5);
    }

    /** MOST: that of the most SUPPORT. */
    private static void mostBySupport() {
        Told.laid("n3;b20,ab;b15,ab;b5,c;k2;").row(1, 0, 1).came(1, 0, 35, 1).came(1, 1, 35, 1);
        Told.laid("n3;b4,ab;b4,c;k2;").row(1, 0, 1);
        Told.laid("n3;b4,ab;b5,c;k2;").row(1, 2, 0).came(1, 0, 5, 1).came(1, 1, 4, 1);
    }

    /** HALVING: each VOTER who APPROVES of it counts 1 by (1 and how many MEMBERS so far that one APPROVES of). */
    private static void halvingByMembersSoFar() {
        Told.laid("n2;b4,ab;b2,a;k2;").row(2, 0, 1).came(2, 0, 6, 1).came(2, 1, 2, 1);
        // a of 5; then b of 3 / 2 and 1 = 5/2 ahead of c of 2; then c of 2 / 2 = 1, as b is of those, too.
        Told.laid("n3;b3,ab;b2,ac;b1,b;k3;").row(2, 0, 1, 2).came(2, 1, 5, 2).came(2, 2, 1, 1);
        Told.laid("n8;b20,abcdefgh;k8;").came(2, 6, 20, 7).came(2, 7, 5, 2);
        // Members without support are approved by none, and those that are withdrawn are no members.
        Told.laid("n3;b2,ab;k3;").due("withdraw(0, 1)", 1).row(2, 1, 2).came(2, 0, 2, 1);
    }

    /** BUYING: of several at one TIME the first by RANK; then those that are left are looked at anew. */
    private static void buyingOfSeveralAtOneTime() {
        // All three at 1/2; one voter is of a and of b, so that the later of these waits till 3/4.
        String three = "n3;b1,a;b1,ab;b1,b;b2,c;k3;";
        for (int law = 0; law < 4; law += 3) {
            Told.laid(three).row(law, 0, 2, 1).came(law, 0, 1, 2).came(law, 1, 1, 2).came(law, 2, 3, 4);
            Told.laid(three + "obac;").row(law, 1, 2, 0).came(law, 1, 1, 2).came(law, 2, 3, 4);
            Told.laid(three + "ocab;").row(law, 2, 0, 1).came(law, 1, 1, 2).came(law, 2, 3, 4);
            Told.laid(three + "ocba;").row(law, 2, 1, 0);
        }
        Told.laid(three).load(0, 1, 2).load(1, 3, 4).load(2, 3, 4).load(3, 1, 2).greatest(3, 4);
        // c of a voter more is bought ahead of both, of one fewer behind all.
        Told.laid(three).due("voters(3, 3)", 2).row(3, 2, 0, 1).came(3, 0, 1, 3);
        Told.laid(three).due("voters(3, 1)", 2).row(3, 0, 1, 2).came(3, 1, 3, 4).came(3, 2, 1, 1);
    }

    /** By what a MEMBER came, in lowest terms. */
    private static void cameInLowestTerms() {
        Told.laid("n2;b2,ab;k2;").came(0, 0, 1, 2).came(0, 1, 1, 1).came(3, 1, 1, 1).came(2, 0, 2, 1)
            .came(2, 1, 1, 1).came(1, 1, 2, 1);
        Told.laid("n2;b20,ab;b20,ab;k2;").came(0, 0, 1, 40).came(0, 1, 1, 20).came(1, 0, 40, 1).came(2, 1, 20, 1);
        Told.laid("n3;b3,abc;k3;").came(0, 1, 2, 3).came(2, 1, 3, 2).came(2, 2, 1, 1);
    }

    /** Without SUPPORT by nothing. */
    private static void withoutSupportByNothing() {
        for (int law = 0; law < 4; law++) {
            String third = "came(" + law + ", 2, ";
            Told.laid("n3;b1,ab;k3;").due("came(" + law + ", 1, 1)", law == 2 ? 2 : 1)
                .keeps(third + "0)", NONE).keeps(third + "1)", NONE).due("ballot(1, 4)", 1)
                .due("came(" + law + ", 2, 1)", law == 2 ? 2 : 1)
                .due("undo()", 0).keeps(third + "0)", NONE).keeps(third + "1)", NONE);
            Told.laid("n1;").keeps("came(" + law + ", 0, 0)", NONE).keeps("came(" + law + ", 0, 1)", NONE)
                .due("ballot(1, 1)", 0).came(law, 0, 1, 1);
        }
    }

    /** The LOAD that each VOTER bears in the end, in lowest terms (0: 0 by 1; 0 by 1 without VOTERS). */
    private static void loadsInTheEnd() {
        Told.laid("n3;b2,a;b1,b;k1;").load(0, 1, 2).load(1, 0, 1).greatest(1, 2)
            .due("seats(2)", 1).load(0, 1, 2).load(1, 1, 1).greatest(1, 1);
        Told.laid("n2;b1,a;k2;").load(0, 1, 1).greatest(1, 1);
        Told.laid("n1;b5,a;").load(0, 1, 5).due("withdraw(0, 1)", 1).load(0, 0, 1).greatest(0, 1);
        Told.laid("n1;").greatest(0, 1).due("ballot(3, 1)", 0).greatest(1, 3);
    }

    /** A set AGREES by all VOTERS who APPROVE of all of it (WITHDRAWN ones, too). */
    private static void agreesByAllOfIt() {
        Told.laid("n3;b4,ab;b2,abc;b1,a;b3,c;").keeps("agrees(1, 0)", 7).keeps("agrees(3, 0)", 6)
            .keeps("agrees(7, 0)", 2).keeps("agrees(4, 0)", 5).keeps("agrees(6, 0)", 2)
            .due("withdraw(0, 1)", 1).keeps("agrees(3, 0)", 6).due("withdraw(1, 1)", 2)
            .due("withdraw(2, 1)", 3).keeps("agrees(7, 0)", 2).keeps("agrees(7, 2)", 0);
    }

    /** OWED: as many as l times all VOTERS by SEATS, or more. */
    private static void owedExactlyOrMore() {
        // 7 voters: 7/3, 7/4, 7/2, 7 for one seat.
        String seven = "n3;b3,a;b2,b;b2,c;";
        Told.laid(seven + "k3;").keeps("agrees(1, 1)", 1).keeps("agrees(2, 1)", 0)
            .due("seats(4)", 3).keeps("agrees(2, 1)", 1).due("seats(2)", 4).keeps("agrees(1, 1)", 0)
            .due("voters(0, 4)", 3).keeps("agrees(1, 1)", 1).due("seats(1)", 2).keeps("agrees(1, 1)", 0);
        Told.laid("n2;b2,a;b4,b;k3;").keeps("agrees(1, 1)", 1).due("voters(1, 5)", 4).keeps("agrees(1, 1)", 0);
        Told.laid("n3;b4,ab;b2,c;k3;").keeps("agrees(3, 1)", 1).due("voters(0, 3)", 4).keeps("agrees(3, 1)", 0)
            .keeps("agrees(1, 1)", 1);
        Told.laid("n8;b20,abcdefgh;b20,abcdefgh;k8;").keeps("agrees(255, 1)", 1)
            .due("seats(7)", 8).keeps("agrees(255, 1)", 0).keeps("agrees(127, 1)", 1)
            .due("approve(1, 254)", 255).keeps("agrees(127, 1)", 0).keeps("agrees(254, 1)", 1);
        Told.laid("n2;b1,ab;k1;").keeps("agrees(1, 1)", 1).keeps("agrees(3, 1)", 0);
        // SEATS count as they are told, also where fewer can be members.
        Told.laid("n2;b1,ab;b3,b;k8;").keeps("agrees(3, 1)", 1).due("seats(7)", 8).keeps("agrees(3, 1)", 0);
    }

    /** .. if those are VOTERS (one at least). */
    private static void owedByOneAtLeast() {
        Told.laid("n2;").keeps("agrees(1, 1)", 0).keeps("agrees(3, 1)", 0).keeps("shorts(0, -1)", 0)
            .due("ballot(1, 1)", 0).keeps("agrees(1, 1)", 1).keeps("agrees(2, 1)", 0).keeps("agrees(3, 1)", 0);
    }

    /** SHORT: OWED, and of fewer than l MEMBERS some of its VOTERS APPROVE. */
    private static void shortOfOne() {
        Told.laid("n5;b4,abc;b2,de;k3;").keeps("shorts(1, -1)", 2).keeps("shorts(1, 0)", 8)
            .keeps("shorts(1, 1)", 16).keeps("shorts(1, 2)", NONE).keeps("shorts(0, -1)", 0)
            .keeps("shorts(2, 0)", NONE).keeps("shorts(3, 0)", NONE)
            .due("voters(1, 1)", 2).keeps("shorts(1, -1)", 0);
        Told.laid("n2;b2,ab;k2;").keeps("shorts(0, -1)", 0).due("withdraw(1, 1)", 1)
            .keeps("shorts(0, -1)", 1).keeps("shorts(0, 0)", 3).keeps("shorts(0, 1)", NONE)
            .due("withdraw(0, 1)", 2).keeps("shorts(0, -1)", 3).keeps("shorts(0, 0)", 1)
            .keeps("shorts(0, 1)", 2).keeps("shorts(0, 2)", 3).keeps("shorts(0, 3)", NONE);
        Told eight = Told.laid("n8;b1,abcdefgh;k8;");
        for (int c = 0; c < 8; c++) {
            eight.due("withdraw(" + c + ", 1)", c + 1);
        }
        eight.due("shorts(2, -1)", 255).due("shorts(2, 254)", 255).due("shorts(2, 255)", NONE)
            .due("withdraw(7, 0)", 7).due("shorts(2, -1)", 247).due("shorts(2, 0)", 3);
    }

    /** Of a MEMBER it is enough that some of the set's VOTERS APPROVE, and it need not be of the set. */
    private static void shortCountsWhatSomeApprove() {
        Told.laid("n4;b1,abc;b1,abd;k2;").due("withdraw(0, 1)", 1).due("withdraw(1, 1)", 2)
            .due("agrees(3, 1)", 1).due("agrees(3, 2)", 2).due("agrees(1, 3)", 2).due("agrees(4, 4)", 1)
            .due("shorts(0, -1)", 0).due("withdraw(3, 1)", 3).due("agrees(3, 5)", 1)
            .due("shorts(0, -1)", 2).due("shorts(0, 0)", 3).due("shorts(0, 1)", 8);
    }

    /** JOINS: the fewest VOTERS more (0 to 20) with whom it is a MEMBER. NONE: not with 20. */
    private static void joins0To20() {
        for (int law = 0; law < 4; law++) {
            String b = "joins(" + law + ", 1)";
            Told.laid("n2;b1,a;b2,b;k1;").keeps(b, 0);
            Told.laid("n2;b1,a;b1,b;k1;").keeps(b, 1).due("prefer(1)", 1).keeps(b, 0);
            Told.laid("n2;b1,a;k1;").keeps(b, 2).due("prefer(1)", 1).keeps(b, 1);
            Told.laid("n2;b1,a;k2;").keeps(b, 0);
            Told.laid("n2;b19,a;k1;").keeps(b, 20).due("prefer(1)", 1).keeps(b, 19);
            Told.laid("n2;b20,a;k1;").keeps(b, NONE).due("prefer(1)", 1).keeps(b, 20);
            Told.laid("n2;b20,a;b1,a;k1;oba;").keeps(b, NONE).due("ballot(1, 2)", 2).keeps(b, 20);
            Told.laid("n2;k1;").keeps(b, 1).due("withdraw(0, 1)", 1).keeps(b, 0);
            Told.laid("n2;b20,a;k1;").due("withdraw(1, 1)", 1).keeps(b, NO)
                .due("withdraw(1, 0)", 0).keeps(b, NONE);
        }
    }

    /** More than 10 BALLOTS, 40 VOTERS do not matter. */
    private static void joinsBeyondLimits() {
        String full = "n3;" + "b4,a;".repeat(5) + "b4,b;".repeat(5) + "k1;";
        for (int law = 0; law < 4; law++) {
            String c = "joins(" + law + ", 2)";
            Told.laid(full).due("count(1)", 10).due("count(2)", 40).keeps(c, NONE)
                .due("prefer(2)", 2).keeps(c, 20).keeps("ballot(1, 4)", LoadCouncil.FULL);
            Told.laid("n2;" + "b1,a;".repeat(10) + "k1;").keeps("joins(" + law + ", 1)", 11);
        }
        // Behind a at 1/40 b is at 2/40, as c with 20; its weight is 40/2.
        int[] fractions = {0, 2, 3};
        for (int law : fractions) {
            Told.laid("n3;b20,ab;b20,ab;k2;").keeps("joins(" + law + ", 2)", NONE)
                .due("prefer(2)", 2).keeps("joins(" + law + ", 2)", 20);
        }
        Told.laid("n3;b20,ab;b20,ab;k2;ocab;").keeps("joins(1, 2)", NONE);
    }

    /** MATTERS: had that one a VOTER fewer (none, if it had one: it is no BALLOT then; SEATS stay). */
    private static void mattersByOneVoterFewer() {
        String ten = "n2;" + "b1,a;".repeat(5) + "b1,b;".repeat(5) + "k1;";
        for (int law = 0; law < 4; law++) {
            String call = "matters(" + law + ")";
            Told.laid("n3;b1,c;b2,b;k2;").keeps(call, 1).due("voters(0, 2)", 1).keeps(call, 0);
            Told.laid("n3;b2,c;b2,b;k2;oacb;").keeps(call, 0).due("voters(1, 1)", 2).keeps(call, 2);
            Told.laid("n2;b3,a;b2,b;k1;oba;").keeps(call, 1).due("prefer(0)", 1).keeps(call, 0);
            Told.laid("n2;b2,a;b2,b;k1;").keeps(call, 1).due("prefer(1)", 1).keeps(call, 2);
            Told.laid(ten).keeps(call, 0b11111).due("prefer(1)", 1).keeps(call, 0b1111100000);
            Told.laid("n2;b1,b;k1;").keeps(call, 1).due("seats(2)", 1).keeps(call, 0);
            Told.laid("n2;k1;").keeps(call, 0);
        }
    }

    /** .. others would be MEMBERS (as a set). */
    private static void mattersAsASet() {
        for (int law = 0; law < 4; law++) {
            String call = "matters(" + law + ")";
            Told.laid("n2;b2,a;b2,b;k2;").keeps(call, 0);
            Told.laid("n3;b2,a;b2,b;b1,c;k2;").keeps(call, 0).due("prefer(2)", 2).keeps(call, 0b011);
        }
    }

    /** RATHER: .. if these are more than as it is. NONE: none is better. */
    private static void ratherOnlyIfMore() {
        // a at 1/5, c at 1/2, b at 8/15 behind them. By b alone: b at 1/3, then a and c at 1/2, a by rank.
        String three = "n3;b3,ab;b2,a;b2,c;k2;";
        int[] fractions = {0, 2, 3};
        for (int law : fractions) {
            String rather = "rather(" + law + ", 0, ";
            Told.laid(three).keeps(rather + "0)", 0b010).keeps(rather + "1)", 2)
                .due("voters(2, 1)", 2).keeps(rather + "0)", NONE).keeps(rather + "1)", NONE)
                .due("voters(2, 3)", 1).keeps(rather + "0)", NONE).keeps(rather + "1)", NONE);
            Told.laid(three).due("prefer(2)", 2).keeps(rather + "0)", NONE).keeps(rather + "1)", NONE);
        }
        Told.laid(three).keeps("rather(1, 0, 0)", NONE).keeps("rather(1, 0, 1)", NONE);
        Told.laid("n2;b1,b;b2,a;k1;").keeps("rather(0, 0, 0)", NONE).keeps("rather(0, 1, 0)", NONE);
    }

    /** RATHER: most MEMBERS are of its own set; of several the least as bits. */
    private static void ratherTheLeastOfTheMost() {
        // As above, with d beside: b alone and b with d both get a and b.
        Told.laid("n4;b3,ab;b2,a;b2,c;k2;").keeps("rather(0, 0, 0)", 0b0010).keeps("rather(0, 0, 1)", 2);
        // The same with the letters turned round: own set cd, told as c alone, as with a.
        Told.laid("n4;b3,cd;b2,d;b2,b;k2;odcba;").keeps("rather(0, 0, 0)", 0b0100).keeps("rather(0, 0, 1)", 2);
        // And so that a alone, the least set of all, is the one.
        Told.laid("n3;b3,ac;b2,c;b2,b;k2;ocab;").keeps("rather(0, 0, 0)", 0b001).keeps("rather(0, 0, 1)", 2);
        // As it is d, a, b, e. By b alone d, b, a, c; so it would be without that ballot, but a set has one at least.
        Told.laid("n5;b1,abc;b3,ade;b3,bcd;k4;").row(0, 3, 0, 1, 4).keeps("rather(0, 0, 0)", 0b00010)
            .keeps("rather(0, 0, 1)", 3).due("approve(0, 1)", 0b00111).row(0, 3, 0, 1, 4)
            .due("approve(0, 2)", 1).row(0, 3, 1, 0, 2);
        // As it is a, d, c. By b alone a, b, c, which is more; by b and e a, e, b, which is the most.
        Told.laid("n5;b2,abe;b3,ade;b1,bd;b4,ac;k3;").row(2, 0, 3, 2)
            .keeps("rather(2, 0, 0)", 0b10010).keeps("rather(2, 0, 1)", 3)
            .due("approve(0, 2)", 0b10011).row(2, 0, 1, 2).due("approve(0, 18)", 2).row(2, 0, 4, 1);
    }

    /** RATHER: the set that it might APPROVE of, so one at least: where nothing at all would be best, it is none. */
    private static void ratherOfOneAtLeast() {
        // Without ballot 0 all of its three are members; by each of the 15 sets that it may tell d is one of them.
        String others = "b7,abd;b5,abc;b4,c;b5,bd;k3;";
        int[] members = {7, 11, 11, 11, 14, 14, 14, 14, 14, 11, 14, 11, 14, 14, 14, 14};
        for (int law = 0; law < 4; law += 3) {
            String rather = "rather(" + law + ", 0, ";
            Told.laid("n4;" + others + "oacdb;").row(law, 1, 0, 2).came(law, 1, 29, 204).came(law, 2, 349, 1836)
                .due("members(" + law + ")", members[0]);
            Told four = Told.laid("n4;b4,abc;" + others + "oacdb;").row(law, 1, 2, 3).came(law, 1, 10, 91)
                .came(law, 2, 11, 84).keeps(rather + "0)", NONE).keeps(rather + "1)", NONE);
            for (int set = 1; set < 16; set++) {
                Told told = four.again();
                if (set != 0b0111) {
                    told.due("approve(0, " + set + ")", 0b0111);
                }
                told.due("members(" + law + ")", members[set]);
            }
            // With e beside there is a set by which it gives up all others: e is behind c at 1/4.
            Told.laid("n5;b4,abc;" + others + "oacdbe;").keeps(rather + "0)", 0b10000).keeps(rather + "1)", 3);
            Told.laid("n5;b4,abc;" + others + "oeacdb;").keeps(rather + "0)", 0b10000).keeps(rather + "1)", 3)
                .due("approve(0, 16)", 0b111).row(law, 1, 0, 2);
        }
    }

    /** RATHER: a set of CANDIDATES that there are, and those that are WITHDRAWN are. */
    private static void ratherOfOneThatIsWithdrawn() {
        for (int law = 0; law < 4; law += 3) {
            String rather = "rather(" + law + ", 0, ";
            Told.laid("n5;b4,abc;b7,abd;b5,abc;b4,c;b5,bd;k3;oacdbe;").due("withdraw(4, 1)", 1)
                .keeps(rather + "0)", 0b10000).keeps(rather + "1)", 3);
            // The same with the one that is withdrawn ahead of all: the least set of all is its own.
            Told.laid("n5;b4,bcd;b7,bce;b5,bcd;b4,d;b5,ce;k3;oabdec;").due("withdraw(0, 1)", 1)
                .row(law, 2, 3, 4).keeps(rather + "0)", 0b00001).keeps(rather + "1)", 3)
                .due("approve(0, 1)", 0b01110).row(law, 2, 1, 3);
            // Nor is it of use to a ballot all of whose own are withdrawn, as none of them can be a member.
            Told.laid("n3;b4,a;b3,b;b2,c;k1;").due("withdraw(0, 1)", 1)
                .keeps(rather + "0)", NONE).keeps(rather + "1)", NONE);
        }
    }

    /** DECIDED: others would be MEMBERS (as a set), were RANK the other way round. */
    private static void decidedAsASet() {
        for (int law = 0; law < 4; law++) {
            String call = "decided(" + law + ")";
            Told.laid("n2;b2,a;b2,b;k1;").keeps(call, 1).due("seats(2)", 1).keeps(call, 0);
            Told.laid("n2;b2,a;b3,b;k1;").keeps(call, 0).due("voters(0, 3)", 2).keeps(call, 1);
            Told.laid("n3;k1;").keeps(call, 1).due("seats(2)", 1).keeps(call, 1).due("seats(3)", 2).keeps(call, 0)
                .due("withdraw(0, 1)", 1).due("seats(1)", 3).keeps(call, 1)
                .due("withdraw(2, 1)", 2).keeps(call, 0).due("withdraw(1, 1)", 3).keeps(call, 0);
            Told.laid("n3;b1,b;k1;").keeps(call, 0).due("seats(2)", 1).keeps(call, 1);
            Told.laid("n1;").keeps(call, 0);
            Told.laid("n8;k4;").keeps(call, 1).due("seats(7)", 4).keeps(call, 1).due("seats(8)", 7).keeps(call, 0);
            Told.laid("n3;b1,a;b1,c;k1;oacb;").keeps(call, 1).due("prefer(1)", 2).keeps(call, 1)
                .rank(1, 0, 2);
        }
    }
}
