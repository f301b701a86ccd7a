import java.util.Arrays;

/** Terms II, the money: check, off, pay, debt and standing at the edges that their sentences name. */
public final class Terms2MoneyTest {
    private static final int GROUP = 4;

    public static void main(String[] args) {
        basketByBasket();
        withinTheQuota();
        quotaOfAllBasketsSoFar();
        overCutTogether();
        greatestCheck();
        off();
        payAndDebt();
        atMostAShareOfPay();
        allOfThat();
        noDebts();
        level();
        theLowerFirst();
        paysDebts();
        groupWithoutOthers();
        groupsAskedInTurn();
        groupOfForty();
        Check.finish();
    }

    private static MillFarmers signed(String contract, int clauses, int... fields) {
        MillFarmers x = new MillFarmers();
        for (int many : fields) {
            x.farmer(GROUP, 0, many);
        }
        Check.sign(x, contract, clauses);
        return x;
    }

    /** Farmers of one group whose pay is as told: prices are 1, nothing is taken off. */
    private static MillFarmers paid(int... pays) {
        MillFarmers x = new MillFarmers();
        for (int i = 0; i < pays.length; i++) {
            x.farmer(GROUP, 0, 1);
            if (pays[i] > 0) {
                x.basket(i, pays[i], 0, 0);
            }
        }
        Check.sign(x, "price 0 1;debt 0 of 1;stand 1 of 1", 3);
        return x;
    }

    private static void given(MillFarmers x, long... due) {
        long sum = 0;
        for (int i = 0; i < due.length; i++) {
            Check.due("given of " + i, x.of(i, 0, 6), due[i]);
            Check.due("left of the pay of " + i, x.of(i, 0, 7), x.of(i, 0, 4) - due[i]);
            sum += due[i];
        }
        Check.due("given together", x.group(GROUP, 0, 2), sum);
        Check.due("left of the debts together", x.group(GROUP, 0, 3), x.group(GROUP, 0, 1) - sum);
    }

    private static void check(MillFarmers x, int farmer, long due) {
        Check.due("check of " + farmer, x.of(farmer, 0, 2), due);
    }

    private static void basketByBasket() {
        Check.sentence("CHECK of a FARMER: BASKET by BASKET in order");
        MillFarmers x = signed("price 0 1;price 1 100;quota 5;over 0 of 1", 4, 1, 1);
        check(x, 0, 0);
        x.basket(0, 5, 0, 1);
        x.basket(0, 5, 1, 0);
        x.basket(1, 5, 1, 0);
        x.basket(1, 5, 0, 1);
        Check.due("the second basket alone", x.of(0, 0, 2), 500);
        Check.due("both in the order told", x.of(0, 1, 2), 5);
        Check.due("both in the other order", x.of(1, 1, 2), 500);
    }

    private static void withinTheQuota() {
        Check.sentence("of its weight what is within the quota (so much for each FIELD");
        MillFarmers x = signed("price 0 10;quota 4;over 1 of 10", 3, 1, 1, 1, 2, 50);
        x.basket(0, 3, 0, 0);
        x.basket(1, 4, 0, 0);
        x.basket(2, 5, 0, 0);
        x.basket(3, 9, 0, 0);
        x.basket(4, 201, 0, 0);
        long[] due = {30, 40, 41, 81, 2001};
        for (int i = 0; i < due.length; i++) {
            check(x, i, due[i]);
        }
        Check.sign(x, "price 0 10;quota 0;over 1 of 10", 3);
        check(x, 0, 3);
        check(x, 4, 201);
        Check.sign(x, "price 0 10;quota 10000;over 0 of 1", 3);
        check(x, 0, 30);
        check(x, 4, 2010);
    }

    private static void quotaOfAllBasketsSoFar() {
        Check.sentence("of all BASKETS so far) at the PRICE of its GRADE");
        MillFarmers x = signed("price 1 1;price 2 10;quota 10;over 0 of 1", 4, 1, 1);
        x.basket(0, 4, 0, 0);
        x.basket(1, 10, 2, 0);
        x.basket(0, 5, 1, 0);
        check(x, 0, 5);
        x.basket(0, 3, 2, 0);
        check(x, 0, 15);
        x.basket(0, 3, 2, 0);
        check(x, 0, 15);
        check(x, 1, 100);
    }

    private static void overCutTogether() {
        Check.sentence("what is beyond at these PRICES, of all BASKETS together times a / b of \"over\", cut");
        MillFarmers x = signed("price 0 1;price 1 2;quota 0;over 1 of 3", 4, 1);
        x.basket(0, 1, 0, 0);
        check(x, 0, 0);
        x.basket(0, 1, 0, 0);
        check(x, 0, 0);
        x.basket(0, 1, 0, 0);
        check(x, 0, 1);
        x.basket(0, 1, 1, 0);
        check(x, 0, 1);
        x.basket(0, 1, 0, 0);
        check(x, 0, 2);
    }

    private static void greatestCheck() {
        Check.sentence("what is beyond at these PRICES, of all BASKETS together times a / b of \"over\", cut");
        MillFarmers x = signed("price 4 10000;quota 1;over 9999 of 10000;debt 9 of 10000", 4, 50);
        for (int i = 0; i < 300; i++) {
            x.basket(0, 1000, 4, 0);
        }
        check(x, 0, 50 * 10000L + 299950L * 9999);
        Check.due("nothing is off without credits", x.of(0, 0, 3), 0);
        for (int i = 0; i < 60; i++) {
            x.credit(0, 100000, 0);
        }
        Check.due("off", x.of(0, 0, 3), 2699730);
        Check.due("pay", x.of(0, 0, 4), 2999700050L - 2699730);
        Check.due("debt", x.of(0, 0, 5), 6000000 - 2699730);
        Check.sign(x, "price 4 10000;debt 1 of 1;stand 9999 of 10000", 3);
        check(x, 0, 3000000000L);
        Check.due("pay of the greatest check", x.of(0, 0, 7), 2994000000L);
    }

    private static void off() {
        Check.sentence("OFF: of the CHECK times a / b of \"debt\", cut, at most what the CREDITS are together.");
        MillFarmers x = signed("price 0 1;debt 2 of 3", 2, 1, 1);
        x.credit(1, 50, 0);
        x.basket(0, 50, 0, 0);
        Check.due("off without credits", x.of(0, 0, 3), 0);
        Check.due("off without a check", x.of(1, 0, 3), 0);
        long[] due = {32, 33, 33};
        x.credit(0, 31, 0);
        for (int i = 0; i < due.length; i++) {
            x.credit(0, 1, 0);
            Check.due("off of " + (32 + i) + " with 33", x.of(0, 0, 3), due[i]);
        }
        Check.sign(x, "price 0 1;debt 0 of 3", 2);
        Check.due("off with debt 0", x.of(0, 0, 3), 0);
        Check.sign(x, "price 0 1;debt 3 of 3", 2);
        Check.due("off with all of the check", x.of(0, 0, 3), 34);
        Check.sign(x, "price 0 1;debt 1 of 100", 2);
        Check.due("off cut to nothing", x.of(0, 0, 3), 0);
    }

    private static void payAndDebt() {
        Check.sentence("PAY: CHECK less OFF. DEBT: CREDITS less OFF.");
        MillFarmers x = signed("price 0 1", 1, 1);
        x.credit(0, 10, 0);
        Check.due("pay of nothing", x.of(0, 0, 4), 0);
        Check.due("debt of all", x.of(0, 0, 5), 10);
        x.basket(0, 10, 0, 0);
        Check.due("pay of as much", x.of(0, 0, 4), 0);
        Check.due("debt of as much", x.of(0, 0, 5), 0);
        x.basket(0, 1, 0, 0);
        Check.due("pay of one more", x.of(0, 0, 4), 1);
        Check.due("debt of one more", x.of(0, 0, 5), 0);
        x.credit(0, 2, 0);
        Check.due("pay of one less", x.of(0, 0, 4), 0);
        Check.due("debt of one less", x.of(0, 0, 5), 1);
    }

    private static void atMostAShareOfPay() {
        Check.sentence("each at most PAY times a / b of \"stand\", cut");
        MillFarmers x = paid(1, 2, 3, 0);
        x.credit(3, 1000, 0);
        given(x, 1, 2, 3, 0);
        Check.sign(x, "price 0 1;debt 0 of 1;stand 1 of 2", 3);
        given(x, 0, 1, 1, 0);
        Check.sign(x, "price 0 1;debt 0 of 1;stand 2 of 3", 3);
        given(x, 0, 1, 2, 0);
        Check.sign(x, "price 0 1;debt 0 of 1;stand 0 of 3", 3);
        given(x, 0, 0, 0, 0);
        MillFarmers y = signed("price 0 1;stand 1 of 1", 2, 1, 1);
        y.basket(0, 10, 0, 0);
        y.credit(0, 4, 0);
        y.credit(1, 100, 0);
        Check.due("pay behind off", y.of(0, 0, 4), 6);
        given(y, 6, 0);
    }

    private static void allOfThat() {
        Check.sentence("all of that, if it is not more than the DEBTS");
        MillFarmers x = paid(3, 0, 8, 4);
        x.credit(1, 14, 0);
        given(x, 3, 0, 7, 4);
        x.credit(1, 1, 0);
        given(x, 3, 0, 8, 4);
        x.credit(1, 1, 0);
        given(x, 3, 0, 8, 4);
        Check.due("left of the debt", x.of(1, 0, 8), 1);
    }

    private static void noDebts() {
        Check.sentence("for its DEBTS together its FARMERS give of their PAY");
        MillFarmers x = paid(5, 6);
        given(x, 0, 0);
        x.credit(0, 1, 1);
        given(x, 0, 0);
        MillFarmers y = paid(0, 0);
        given(y, 0, 0);
        y.credit(0, 3, 0);
        given(y, 0, 0);
        MillFarmers own = paid(5);
        own.credit(0, 3, 0);
        given(own, 3);
        Check.due("its own debt is paid", own.of(0, 0, 8), 0);
    }

    private static void level() {
        Check.sentence("else with the greatest LEVEL for which the lesser of LEVEL and what each can give, "
                + "summed, is no more than the DEBTS, each that");
        MillFarmers x = paid(2, 9, 5, 9, 0);
        long[][] due = {{4, 1, 1, 1, 1, 0}, {4, 2, 2, 2, 2, 0}, {3, 2, 3, 3, 3, 0}, {6, 2, 5, 5, 5, 0},
            {2, 2, 6, 5, 6, 0}, {6, 2, 9, 5, 9, 0}, {1, 2, 9, 5, 9, 0}};
        for (long[] d : due) {
            x.credit(4, (int) d[0], 0);
            given(x, d[1], d[2], d[3], d[4], d[5]);
        }
    }

    private static void theLowerFirst() {
        Check.sentence("of what is missing one each those that can give more, the lower first");
        MillFarmers x = paid(1, 3, 0, 3, 2);
        long[][] due = {{1, 0, 0, 0, 0}, {1, 1, 0, 0, 0}, {1, 1, 0, 1, 0}, {1, 1, 0, 1, 1}, {1, 2, 0, 1, 1},
            {1, 2, 0, 2, 1}, {1, 2, 0, 2, 2}, {1, 3, 0, 2, 2}, {1, 3, 0, 3, 2}};
        for (long[] d : due) {
            x.credit(2, 1, 0);
            given(x, d);
        }
    }

    private static void paysDebts() {
        Check.sentence("GIVEN is taken from PAY; it pays DEBTS FARMER by FARMER, the lower first.");
        MillFarmers x = paid(0, 0, 6, 0);
        x.credit(3, 2, 0);
        x.credit(1, 3, 0);
        x.credit(0, 2, 0);
        long[] due = {0, 0, 0, 1};
        for (int i = 0; i < due.length; i++) {
            Check.due("left of the debt of " + i, x.of(i, 0, 8), due[i]);
        }
        x.credit(0, 3, 0);
        long[] then = {0, 2, 0, 2};
        for (int i = 0; i < then.length; i++) {
            Check.due("then left of the debt of " + i, x.of(i, 0, 8), then[i]);
        }
        Check.due("left of the pay", x.of(2, 0, 7), 0);
    }

    private static void groupWithoutOthers() {
        Check.sentence("STANDING in a GROUP");
        MillFarmers x = paid(7, 7);
        x.farmer(GROUP + 1, 0, 1);
        x.farmer(GROUP - 1, 0, 1);
        x.basket(3, 9, 0, 0);
        x.credit(2, 5, 0);
        given(x, 0, 0);
        Check.due("debts of this group", x.group(GROUP, 0, 1), 0);
        Check.due("debts of the next group", x.group(GROUP + 1, 0, 1), 5);
        Check.due("given in the next group", x.group(GROUP + 1, 0, 2), 0);
        Check.due("left in the next group", x.group(GROUP + 1, 0, 3), 5);
        Check.due("left of the debt there", x.of(2, 0, 8), 5);
        Check.due("given in the group ahead", x.of(3, 0, 6), 0);
        for (int what = 0; what <= 3; what++) {
            Check.due("of a group of none", x.group(9, 0, what), 0);
        }
    }

    private static void groupsAskedInTurn() {
        Check.sentence("STANDING in a GROUP");
        MillFarmers x = paid(3, 9, 9);
        x.farmer(GROUP + 1, 0, 1);
        x.farmer(GROUP + 1, 0, 1);
        x.basket(3, 9, 0, 0);
        x.basket(4, 9, 0, 0);
        x.credit(0, 11, 0);
        x.credit(4, 7, 0);
        long[] due = {3, 4, 4, 4, 3};
        for (int twice = 0; twice < 2; twice++) {
            for (int i = 0; i < due.length; i++) {
                Check.due("given of " + i, x.of(i, 0, 6), due[i]);
                Check.due("left of the debt of " + i, x.of(i, 0, 8), 0);
            }
            Check.due("given in the next group", x.group(GROUP + 1, 0, 2), 7);
            Check.due("given in this group", x.group(GROUP, 0, 2), 11);
        }
    }

    private static void groupOfForty() {
        Check.sentence("STANDING in a GROUP");
        int[] pays = new int[40];
        Arrays.fill(pays, 5);
        MillFarmers x = paid(pays);
        x.credit(39, 41, 0);
        for (int i = 0; i < 40; i++) {
            Check.due("given of " + i + " in forty", x.of(i, 0, 6), i == 0 ? 2 : 1);
        }
        Check.due("farmers", x.group(GROUP, 0, 0), 40);
        x.credit(0, 158, 0);
        Check.due("given of the first but one less than all", x.of(0, 0, 6), 5);
        Check.due("given of the last but one less than all", x.of(39, 0, 6), 4);
        x.credit(0, 1, 0);
        Check.due("given of the last of all", x.of(39, 0, 6), 5);
        x.credit(0, 1, 0);
        Check.due("given together", x.group(GROUP, 0, 2), 200);
        Check.due("left of the first one's debt", x.of(0, 0, 8), 0);
        Check.due("left of the last one's debt", x.of(39, 0, 8), 1);
    }
}
