/** Each sum that is kept from passing 2147483647: one below it, at it, and one above it. Promises 6, 13, 23 and 24. */
public final class SumsTest {
    private static final int MOST = 2147483647;
    private static final int MOST_FEE = 2000000000;

    private static final Check CHECK = new Check("SumsTest");

    public static void main(String[] args) throws IllegalAccessException {
        CHECK.allPromises(SumsTest.class);
    }

    /** A desk whose client 0 owes an amount and has a fee of 2000000000; person 9 has got 2000000000. */
    private static EmbargoDesk owing(int amount) {
        EmbargoDesk desk = new EmbargoDesk();
        desk.addClient(1, 0, 0, 9, MOST_FEE);
        Desks.release(desk, "0 9 @0 a");
        desk.pass(1);
        desk.pay(0, MOST_FEE - amount);
        return desk;
    }

    /** A desk where person 1 has got an amount, from client 0 alone, who has topic 0. */
    private static EmbargoDesk withGot(int amount) {
        EmbargoDesk desk = new EmbargoDesk();
        desk.addClient(1, 0, 0, 9, amount);
        Desks.release(desk, "0 1 @0 a");
        desk.pass(1);
        CHECK.due("got at first", desk.person(1, 0), amount);
        return desk;
    }

    /** Adds client 1, of topic 1, and lets a story of this topic be published, whose byline is given. */
    private static void bill(EmbargoDesk desk, int fee, String byline) {
        desk.addClient(2, 0, 0, 9, fee);
        Desks.release(desk, "1 " + byline + " @0 b");
        CHECK.due("a copy comes", desk.pass(1), 1);
    }

    // ---- what a client owes

    static void promise13_owesOneLessThan2147483647() {
        EmbargoDesk desk = owing(147483646);
        Desks.release(desk, "0 1 @0 b");
        desk.pass(1);
        CHECK.due("owes", desk.client(0, 6), MOST - 1);
        CHECK.due("not billed", desk.client(0, 10), 0);
        CHECK.due("the person has got it", desk.person(1, 0), MOST_FEE);
    }

    static void promise13_owes2147483647() {
        EmbargoDesk desk = owing(147483647);
        Desks.release(desk, "0 1 @0 b");
        desk.pass(1);
        CHECK.due("owes", desk.client(0, 6), MOST);
        CHECK.due("not billed", desk.client(0, 10), 0);
        CHECK.due("the person has got it", desk.person(1, 0), MOST_FEE);
    }

    static void promise13_wouldOweOneMoreThan2147483647() {
        EmbargoDesk desk = owing(147483648);
        Desks.release(desk, "0 1 @0 b");
        CHECK.due("the copy comes all the same", desk.pass(1), 1);
        CHECK.due("owes", desk.client(0, 6), 147483648);
        CHECK.due("not billed", desk.client(0, 10), 1);
        CHECK.due("came today", desk.client(0, 7), 2);
        CHECK.due("came", desk.client(0, 8), 2);
        CHECK.due("in use", desk.copy(1, 0, 0), 1);
        CHECK.due("the person has got nothing", desk.person(1, 0), 0);
        CHECK.due("and lost nothing", desk.person(1, 1), 0);
    }

    static void promise13_theNextCopyIsBilledAgainAfterPay() {
        EmbargoDesk desk = owing(147483648);
        Desks.release(desk, "0 1 @0 b");
        desk.pass(1);
        CHECK.due("pay", desk.pay(0, 1), 147483647);
        Desks.release(desk, "0 2 @0 c");
        desk.pass(1);
        CHECK.due("owes", desk.client(0, 6), MOST);
        CHECK.due("not billed", desk.client(0, 10), 1);
        Desks.release(desk, "0 3 @0 d");
        desk.pass(1);
        CHECK.due("owes as much", desk.client(0, 6), MOST);
        CHECK.due("two are not billed", desk.client(0, 10), 2);
        CHECK.due("the one that was", desk.person(2, 0), MOST_FEE);
        CHECK.due("the one that was not", desk.person(3, 0), 0);
    }

    static void promise13_theFourthOfFeesOf715827882IsNotBilled() {
        EmbargoDesk desk = new EmbargoDesk();
        desk.addClient(1, 0, 0, 9, 715827882);
        for (int story = 0; story < 4; story++) {
            Desks.release(desk, "0 1 @0 a");
        }
        desk.pass(1);
        CHECK.due("three times 715827882", desk.client(0, 6), MOST - 1);
        CHECK.due("the fourth is not billed", desk.client(0, 10), 1);
        CHECK.due("the person has got three", desk.person(1, 0), MOST - 1);
        CHECK.due("and lost none", desk.person(1, 1), 0);
    }

    static void promise13_aFeeOf0IsAlwaysBilled() {
        EmbargoDesk desk = new EmbargoDesk();
        desk.addClient(1, 0, 0, 9, 0);
        for (int story = 0; story < 9; story++) {
            Desks.release(desk, "0 1,2,3 @0 a");
        }
        desk.pass(1);
        CHECK.due("owes", desk.client(0, 6), 0);
        CHECK.due("not billed", desk.client(0, 10), 0);
        CHECK.due("got", desk.person(1, 0), 0);
        CHECK.due("lost", desk.person(1, 1), 0);
    }

    static void promise13_eachClientOwesItsOwnSum() {
        EmbargoDesk desk = new EmbargoDesk();
        desk.addClient(1, 0, 0, 9, MOST_FEE);
        desk.addClient(1, 0, 0, 9, 1);
        Desks.release(desk, "0 1 @0 a");
        Desks.release(desk, "0 2 @0 b");
        desk.pass(1);
        CHECK.due("client 0 owes", desk.client(0, 6), MOST_FEE);
        CHECK.due("client 0 was not billed", desk.client(0, 10), 1);
        CHECK.due("client 1 owes", desk.client(1, 6), 2);
        CHECK.due("client 1 was billed", desk.client(1, 10), 0);
        CHECK.due("person 2 has got it from client 1", desk.person(2, 0), 1);
    }

    static void promise28_lookingAheadBillsNothing() {
        EmbargoDesk desk = owing(147483648);
        Desks.release(desk, "0 1 @0 b");
        CHECK.due("would come", desk.wouldCome(0, 1), 1);
        CHECK.due("owes", desk.client(0, 6), 147483648);
        CHECK.due("not billed", desk.client(0, 10), 0);
    }

    // ---- what a person has got

    static void promise13_gotOneLessThan2147483647() {
        EmbargoDesk desk = withGot(MOST_FEE);
        bill(desk, 147483646, "1");
        CHECK.due("got", desk.person(1, 0), MOST - 1);
        CHECK.due("lost", desk.person(1, 1), 0);
    }

    static void promise13_got2147483647() {
        EmbargoDesk desk = withGot(MOST_FEE);
        bill(desk, 147483647, "1");
        CHECK.due("got", desk.person(1, 0), MOST);
        CHECK.due("lost", desk.person(1, 1), 0);
    }

    static void promise13_aShareByWhichOneMoreWouldBeGotIsLost() {
        EmbargoDesk desk = withGot(MOST_FEE);
        bill(desk, 147483648, "1");
        CHECK.due("got", desk.person(1, 0), MOST_FEE);
        CHECK.due("lost", desk.person(1, 1), 1);
        CHECK.due("the client owes it", desk.client(1, 6), 147483648);
        CHECK.due("and was billed", desk.client(1, 10), 0);
    }

    static void promise13_theGreatestShareThatIsLost() {
        EmbargoDesk desk = withGot(MOST_FEE);
        bill(desk, MOST_FEE, "1");
        CHECK.due("got", desk.person(1, 0), MOST_FEE);
        CHECK.due("lost", desk.person(1, 1), 1);
    }

    static void promise13_aSmallerShareIsGotAfterOneThatWasLost() {
        EmbargoDesk desk = withGot(MOST_FEE);
        bill(desk, 147483648, "1");
        desk.addClient(4, 0, 0, 9, 147483647);
        Desks.release(desk, "2 1 @0 c");
        desk.pass(1);
        CHECK.due("got", desk.person(1, 0), MOST);
        CHECK.due("lost", desk.person(1, 1), 1);
    }

    static void promise13_aShareOf0At2147483647IsNotLost() {
        EmbargoDesk desk = withGot(MOST_FEE);
        bill(desk, 147483647, "1");
        desk.addClient(4, 0, 0, 9, 0);
        desk.addClient(8, 0, 0, 9, 1);
        Desks.release(desk, "2 1 @0 c");
        Desks.release(desk, "3 2,1 @0 c");
        desk.pass(1);
        CHECK.due("got", desk.person(1, 0), MOST);
        CHECK.due("lost", desk.person(1, 1), 0);
        CHECK.due("the first one has got what is left over", desk.person(2, 0), 1);
        Desks.release(desk, "3 1,2 @0 c");
        desk.pass(1);
        CHECK.due("a share of 1 is lost", desk.person(1, 1), 1);
    }

    /** Of 600000002 and three persons, 200000000 is a share and 2 is left over. */
    static void promise13_theFirstShareWithWhatIsLeftOverJustFits() {
        EmbargoDesk desk = withGot(MOST - 200000002);
        bill(desk, 600000002, "1,2,3");
        CHECK.due("got", desk.person(1, 0), MOST);
        CHECK.due("lost", desk.person(1, 1), 0);
    }

    static void promise13_theFirstShareIsLostWithWhatIsLeftOver() {
        EmbargoDesk desk = withGot(MOST - 200000001);
        bill(desk, 600000002, "1,2,3");
        CHECK.due("got", desk.person(1, 0), MOST - 200000001);
        CHECK.due("lost, in one share", desk.person(1, 1), 1);
        CHECK.due("the second one has got", desk.person(2, 0), 200000000);
        CHECK.due("the third one has got", desk.person(3, 0), 200000000);
        CHECK.due("the second one has lost", desk.person(2, 1), 0);
        CHECK.due("the third one has lost", desk.person(3, 1), 0);
        CHECK.due("the client owes it all", desk.client(1, 6), 600000002);
    }

    static void promise13_theOtherSharesAreWithoutWhatIsLeftOver() {
        for (int place = 1; place <= 2; place++) {
            String byline = place == 1 ? "2,1,3" : "2,3,1";
            EmbargoDesk fits = withGot(MOST - 200000000);
            bill(fits, 600000002, byline);
            CHECK.due("got", fits.person(1, 0), MOST);
            CHECK.due("lost", fits.person(1, 1), 0);
            EmbargoDesk lost = withGot(MOST - 199999999);
            bill(lost, 600000002, byline);
            CHECK.due("got", lost.person(1, 0), MOST - 199999999);
            CHECK.due("lost", lost.person(1, 1), 1);
            CHECK.due("the first one has got all the same", lost.person(2, 0), 200000002);
            CHECK.due("the other one has got all the same", lost.person(3, 0), 200000000);
        }
    }

    static void promise13_sharesAreRoundedDown() {
        // The fee, then what the first, second and third person get; how many there are is told by those above -1.
        int[][] rows = {{0, 0, -1, -1}, {1, 1, -1, -1}, {MOST_FEE, MOST_FEE, -1, -1}, {0, 0, 0, -1}, {1, 1, 0, -1},
            {2, 1, 1, -1}, {3, 2, 1, -1}, {1999999999, 1000000000, 999999999, -1},
            {MOST_FEE, 1000000000, 1000000000, -1}, {0, 0, 0, 0}, {1, 1, 0, 0}, {2, 2, 0, 0}, {3, 1, 1, 1},
            {4, 2, 1, 1}, {5, 3, 1, 1}, {6, 2, 2, 2}, {1999999998, 666666666, 666666666, 666666666},
            {1999999999, 666666667, 666666666, 666666666}, {MOST_FEE, 666666668, 666666666, 666666666}};
        for (int[] row : rows) {
            EmbargoDesk desk = new EmbargoDesk();
            desk.addClient(1, 0, 0, 9, row[0]);
            Desks.release(desk, row[2] < 0 ? "0 4 @0 a" : row[3] < 0 ? "0 4,9 @0 a" : "0 4,9,0 @0 a");
            desk.pass(1);
            CHECK.due("owes of " + row[0], desk.client(0, 6), row[0]);
            CHECK.due("first of " + row[0], desk.person(4, 0), row[1]);
            CHECK.due("second of " + row[0], desk.person(9, 0), Math.max(0, row[2]));
            CHECK.due("third of " + row[0], desk.person(0, 0), Math.max(0, row[3]));
        }
    }

    // ---- what is paid

    static void promise06_notPossibleIfItOwesOneLess() {
        int[] sums = {1, 2, 5, 1999999999};
        for (int sum : sums) {
            EmbargoDesk desk = owing(sum);
            CHECK.due("one more than " + sum, desk.pay(0, sum + 1), EmbargoDesk.NOT_POSSIBLE);
            CHECK.due("owes", desk.client(0, 6), sum);
            CHECK.due("one less than " + sum, owing(sum).pay(0, Math.max(1, sum - 1)), sum == 1 ? 0 : 1);
            CHECK.due("just " + sum, desk.pay(0, sum), 0);
            CHECK.due("owes nothing", desk.client(0, 6), 0);
            CHECK.due("one more", desk.pay(0, 1), EmbargoDesk.NOT_POSSIBLE);
        }
    }

    static void promise06_payOf2147483647InTwoParts() {
        EmbargoDesk desk = owing(147483647);
        Desks.release(desk, "0 1 @0 b");
        desk.pass(1);
        CHECK.due("as much as can be paid at once", desk.pay(0, MOST_FEE), 147483647);
        CHECK.due("one too much", desk.pay(0, 147483648), EmbargoDesk.NOT_POSSIBLE);
        CHECK.due("the rest", desk.pay(0, 147483647), 0);
    }

    static void promise06_whatPersonsHaveGotStays() {
        EmbargoDesk desk = owing(1);
        desk.pay(0, 1);
        CHECK.due("got", desk.person(9, 0), MOST_FEE);
    }
}
