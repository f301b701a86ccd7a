import java.util.Arrays;
import java.util.Random;

/** Promises 9 and 10: of and group, by cases worked out by hand and against a plain reckoning. */
public final class AccountsTest {
    public static void main(String[] args) {
        wrongNumbers();
        overIsCutOnce();
        orderOfBaskets();
        offAndDebt();
        evenly();
        exactlyEnough();
        debtsPaidInOrder();
        groupsApart();
        asKnown();
        greatest();
        fullGroup();
        for (int seed = 0; seed < 400; seed++) {
            againstPlainReckoning(seed);
        }
        Check.finish();
    }

    private static void all(MillFarmers x, int farmer, int known, long... due) {
        for (int what = 0; what < due.length; what++) {
            Check.due("of(" + farmer + ", " + known + ", " + what + ")", x.of(farmer, known, what), due[what]);
        }
    }

    private static void together(MillFarmers x, int group, int known, long... due) {
        for (int what = 0; what < due.length; what++) {
            Check.due("group(" + group + ", " + known + ", " + what + ")", x.group(group, known, what),
                    due[what]);
        }
    }

    private static void wrongNumbers() {
        MillFarmers x = new MillFarmers();
        x.farmer(0, 0, 1);
        int low = Integer.MIN_VALUE;
        int high = Integer.MAX_VALUE;
        int[][] wrong = {{-1, 0, 0}, {1, 0, 0}, {40, 0, 0}, {low, 0, 0}, {high, 0, 0}, {0, -1, 0},
            {0, 401, 0}, {0, low, 0}, {0, high, 0}, {0, 0, -1}, {0, 0, 11}, {0, 0, low}, {0, 0, high}};
        for (int[] w : wrong) {
            Check.due("of(" + w[0] + ", " + w[1] + ", " + w[2] + ")", x.of(w[0], w[1], w[2]), -1);
        }
        wrong = new int[][] {{-1, 0, 0}, {10, 0, 0}, {low, 0, 0}, {high, 0, 0}, {0, -1, 0}, {0, 401, 0},
            {0, low, 0}, {0, high, 0}, {0, 0, -1}, {0, 0, 4}, {0, 0, low}, {0, 0, high}};
        for (int[] w : wrong) {
            Check.due("group(" + w[0] + ", " + w[1] + ", " + w[2] + ")", x.group(w[0], w[1], w[2]), -1);
        }
        all(x, 0, 400, 0, 0, 0, 0, 0, 0, 0, 0, 0, 0, 0);
        together(x, 0, 400, 1, 0, 0, 0);
        together(x, 9, 0, 0, 0, 0, 0);
        Check.due("refused questions leave status", x.status(), 0);
    }

    private static void overIsCutOnce() {
        MillFarmers x = new MillFarmers();
        x.farmer(0, 0, 2);
        x.farmer(0, 0, 1);
        Check.sign(x, "price 2 1;price 3 5;quota 3;over 1 of 2", 4);
        x.basket(0, 5, 2, 0);
        x.basket(1, 9, 3, 0);
        x.basket(0, 2, 3, 0);
        x.basket(0, 1, 2, 0);
        x.basket(0, 1, 2, 0);
        // within 5 * 1 + 1 * 5; beyond 5 + 1 + 1 = 7, half of it cut
        all(x, 0, 0, 9, 0, 13);
        all(x, 1, 0, 9, 0, 15 + 15);
    }

    private static void orderOfBaskets() {
        MillFarmers x = new MillFarmers();
        x.farmer(0, 0, 1);
        Check.sign(x, "price 0 1;price 1 10;quota 4;over 0 of 1", 4);
        x.basket(0, 4, 0, 9);
        x.basket(0, 4, 1, 3);
        all(x, 0, 2, 0, 0, 0);
        all(x, 0, 3, 4, 0, 40);
        all(x, 0, 9, 8, 0, 4);
    }

    private static void offAndDebt() {
        MillFarmers x = new MillFarmers();
        x.farmer(3, 0, 1);
        Check.sign(x, "price 0 1;debt 2 of 3", 2);
        x.basket(0, 100, 0, 0);
        x.credit(0, 65, 0);
        all(x, 0, 0, 100, 65, 100, 65, 35, 0, 0, 35, 0);
        x.credit(0, 1, 0);
        all(x, 0, 0, 100, 66, 100, 66, 34, 0, 0, 34, 0);
        x.credit(0, 1, 0);
        all(x, 0, 0, 100, 67, 100, 66, 34, 1, 0, 34, 1);
        Check.sign(x, "price 0 1;debt 0 of 3", 2);
        all(x, 0, 0, 100, 67, 100, 0, 100, 67, 0, 100, 67);
    }

    private static MillFarmers payers(int... pays) {
        MillFarmers x = new MillFarmers();
        Check.sign(x, "price 0 1;debt 0 of 1;stand 1 of 1", 3);
        for (int i = 0; i < pays.length; i++) {
            x.farmer(0, 0, 1);
            if (pays[i] > 0) {
                x.basket(i, pays[i], 0, 0);
            }
        }
        return x;
    }

    private static void given(MillFarmers x, long... due) {
        long sum = 0;
        for (int i = 0; i < due.length; i++) {
            Check.due("given of " + i, x.of(i, 0, 6), due[i]);
            Check.due("pay left of " + i, x.of(i, 0, 7), x.of(i, 0, 4) - due[i]);
            sum += due[i];
        }
        Check.due("given together", x.group(0, 0, 2), sum);
        Check.due("debts left", x.group(0, 0, 3), x.group(0, 0, 1) - sum);
    }

    private static void evenly() {
        MillFarmers x = payers(3, 10, 10, 1, 10);
        given(x, 0, 0, 0, 0, 0);
        x.credit(0, 2, 0);
        given(x, 1, 1, 0, 0, 0);
        x.credit(1, 3, 0);
        given(x, 1, 1, 1, 1, 1);
        x.credit(0, 2, 0);
        given(x, 2, 2, 1, 1, 1);
        x.credit(0, 2, 0);
        given(x, 2, 2, 2, 1, 2);
        x.credit(0, 5, 0);
        given(x, 3, 4, 3, 1, 3);
        x.credit(0, 1, 0);
        given(x, 3, 4, 4, 1, 3);
        x.credit(0, 1, 0);
        given(x, 3, 4, 4, 1, 4);
    }

    private static void exactlyEnough() {
        MillFarmers x = payers(3, 10, 4);
        x.credit(2, 16, 0);
        given(x, 3, 9, 4);
        x.credit(2, 1, 0);
        given(x, 3, 10, 4);
        x.credit(2, 1, 0);
        given(x, 3, 10, 4);
        Check.due("debt left", x.of(2, 0, 8), 1);
    }

    private static void debtsPaidInOrder() {
        MillFarmers x = payers(10, 0, 0, 0);
        x.credit(3, 4, 0);
        x.credit(1, 4, 0);
        x.credit(2, 4, 0);
        Check.due("debt left of 1", x.of(1, 0, 8), 0);
        Check.due("debt left of 2", x.of(2, 0, 8), 0);
        Check.due("debt left of 3", x.of(3, 0, 8), 2);
        together(x, 0, 0, 4, 12, 10, 2);
    }

    private static void groupsApart() {
        MillFarmers x = new MillFarmers();
        Check.sign(x, "price 0 1;debt 0 of 1;stand 1 of 2", 3);
        for (int i = 0; i < 4; i++) {
            x.farmer(i % 2 == 0 ? 0 : 9, 0, 1);
            x.basket(i, 11, 0, 0);
        }
        x.credit(0, 7, 0);
        x.credit(3, 100, 0);
        together(x, 0, 0, 2, 7, 7, 0);
        together(x, 9, 0, 2, 100, 10, 90);
        together(x, 5, 0, 0, 0, 0, 0);
        all(x, 0, 0, 11, 7, 11, 0, 11, 7, 4, 7, 0);
        all(x, 2, 0, 11, 0, 11, 0, 11, 0, 3, 8, 0);
        all(x, 1, 0, 11, 0, 11, 0, 11, 0, 5, 6, 0);
        all(x, 3, 0, 11, 100, 11, 0, 11, 100, 5, 6, 90);
    }

    private static void asKnown() {
        MillFarmers x = new MillFarmers();
        Check.sign(x, "price 0 2;stand 1 of 1", 2);
        x.farmer(1, 0, 1);
        x.farmer(1, 0, 1);
        x.credit(0, 30, 400);
        x.basket(1, 10, 0, 399);
        x.basket(0, 2, 0, 400);
        together(x, 1, 398, 2, 0, 0, 0);
        together(x, 1, 399, 2, 0, 0, 0);
        together(x, 1, 400, 2, 26, 20, 6);
        all(x, 0, 399, 0, 0, 0, 0, 0, 0, 0, 0, 0);
        all(x, 0, 400, 2, 30, 4, 4, 0, 26, 0, 0, 6);
        all(x, 1, 398, 0, 0, 0, 0, 0, 0, 0, 0, 0);
        all(x, 1, 400, 10, 0, 20, 0, 20, 0, 20, 0, 0);
    }

    private static void greatest() {
        MillFarmers x = new MillFarmers();
        Check.sign(x, "price 0 10000;quota 0;over 9999 of 10000;debt 9999 of 10000;stand 10000 of 10000", 5);
        x.farmer(0, 0, 50);
        x.farmer(0, 0, 50);
        for (int i = 0; i < 300; i++) {
            x.basket(0, 1000, 0, 0);
        }
        for (int i = 0; i < 195; i++) {
            x.credit(1, 100000, 0);
        }
        long check = 2999700000L;
        all(x, 0, 0, 300000, 0, check);
        Check.due("given", x.of(0, 0, 6), 19500000);
        Check.due("debts left", x.group(0, 0, 3), 0);
    }

    private static void fullGroup() {
        int[] pays = new int[40];
        Arrays.fill(pays, 9);
        MillFarmers x = payers(pays);
        x.credit(39, 79, 0);
        for (int i = 0; i < 40; i++) {
            Check.due("given of " + i + " in forty", x.of(i, 0, 6), i < 39 ? 2 : 1);
        }
        together(x, 0, 0, 40, 79, 79, 0);
        x.credit(0, 1000, 0);
        together(x, 0, 0, 40, 1079, 360, 719);
        Check.due("debt left of 0 in forty", x.of(0, 0, 8), 640);
        Check.due("debt left of 39 in forty", x.of(39, 0, 8), 79);
    }

    private static void againstPlainReckoning(int seed) {
        Random dice = new Random(seed);
        PlainMill plain = new PlainMill(dice, seed % 4);
        for (int day : new int[] {0, 1, 200, 400}) {
            // A new object for each day: nothing is promised behind the 512th call.
            MillFarmers x = plain.told();
            plain.reckon(day);
            for (int f = 0; f < plain.farmers; f++) {
                for (int what = 0; what <= 8; what++) {
                    Check.due("seed " + seed + ": of(" + f + ", " + day + ", " + what + ")",
                            x.of(f, day, what), plain.of(f, what));
                }
            }
            for (int g = 0; g < 10; g++) {
                for (int what = 0; what <= 3; what++) {
                    Check.due("seed " + seed + ": group(" + g + ", " + day + ", " + what + ")",
                            x.group(g, day, what), plain.group(g, what));
                }
            }
        }
    }
}
