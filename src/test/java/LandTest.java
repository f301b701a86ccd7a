/** Promises 11 and 12, and what of() tells of them: bears, drought, foretold, short. */
public final class LandTest {
    public static void main(String[] args) {
        bears();
        droughts();
        droughtsRefused();
        lastToldCounts();
        cut();
        shortOnes();
        Check.finish();
    }

    private static void bears() {
        MillFarmers x = new MillFarmers();
        x.farmer(0, 0, 50);
        Check.due("foretold at first", x.of(0, 0, 9), 0);
        Check.due("bears(10000)", x.bears(10000), 0);
        Check.due("foretold", x.of(0, 0, 9), 500000);
        for (int wrong : new int[] {-1, 10001, Integer.MIN_VALUE, Integer.MAX_VALUE}) {
            Check.due("bears(" + wrong + ")", x.bears(wrong), -1);
            Check.due("its status", x.status(), -1);
        }
        Check.due("foretold still", x.of(0, 0, 9), 500000);
        Check.due("bears(7)", x.bears(7), 10000);
        Check.due("status", x.status(), 0);
        Check.due("bears(0)", x.bears(0), 7);
        Check.due("bears(0) again", x.bears(0), 0);
    }

    private static void droughts() {
        MillFarmers x = new MillFarmers();
        for (int place : new int[] {0, 9, 10, 20, 21, 1000}) {
            x.farmer(0, place, 1);
        }
        x.bears(100);
        Check.due("drought(10, 20, 30)", x.drought(10, 20, 30), 1);
        long[] due = {100, 100, 70, 70, 100, 100};
        for (int i = 0; i < due.length; i++) {
            Check.due("foretold of " + i, x.of(i, 400, 9), due[i]);
        }
        Check.due("drought(1000, 1000, 100)", x.drought(1000, 1000, 100), 2);
        Check.due("all lost", x.of(5, 0, 9), 0);
        for (int i = 3; i <= 60; i++) {
            Check.due("drought " + i, x.drought(0, 1000, i), i);
        }
        Check.due("a 61st drought", x.drought(0, 1000, 0), -5);
        Check.due("its status", x.status(), -5);
        Check.due("a wrong 61st drought", x.drought(0, 1001, 0), -1);
        Check.due("count(4)", x.count(4), 60);
        Check.due("the 60th counts", x.of(0, 0, 9), 40);
    }

    private static void droughtsRefused() {
        MillFarmers x = new MillFarmers();
        int low = Integer.MIN_VALUE;
        int high = Integer.MAX_VALUE;
        int[][] wrong = {{-1, 0, 0}, {0, -1, 0}, {1001, 1001, 0}, {0, 1001, 0}, {5, 4, 0}, {0, 0, -1},
            {0, 0, 101}, {low, 0, 0}, {high, 0, 0}, {0, low, 0}, {0, high, 0}, {0, 0, low}, {0, 0, high}};
        for (int[] w : wrong) {
            Check.due("drought(" + w[0] + ", " + w[1] + ", " + w[2] + ")", x.drought(w[0], w[1], w[2]), -1);
            Check.due("its status", x.status(), -1);
        }
        Check.due("count(4)", x.count(4), 0);
        Check.due("drought(0, 1000, 100)", x.drought(0, 1000, 100), 1);
        Check.due("drought(0, 0, 0)", x.drought(0, 0, 0), 2);
        Check.due("status", x.status(), 0);
    }

    private static void lastToldCounts() {
        MillFarmers x = new MillFarmers();
        x.farmer(0, 50, 2);
        x.bears(50);
        x.drought(0, 100, 90);
        x.drought(50, 50, 10);
        Check.due("the later", x.of(0, 0, 9), 90);
        x.drought(51, 1000, 70);
        Check.due("another place's", x.of(0, 0, 9), 90);
        x.drought(0, 50, 0);
        Check.due("none again", x.of(0, 0, 9), 100);
    }

    private static void cut() {
        MillFarmers x = new MillFarmers();
        x.farmer(0, 0, 3);
        x.bears(11);
        x.drought(0, 0, 50);
        Check.due("33 times 50 / 100", x.of(0, 0, 9), 16);
        x.drought(0, 0, 99);
        Check.due("33 times 1 / 100", x.of(0, 0, 9), 0);
    }

    private static void shortOnes() {
        MillFarmers x = new MillFarmers();
        x.farmer(0, 0, 1);
        x.bears(35);
        Check.sign(x, "due 1 of 2", 1);
        Check.due("0 of 17", x.of(0, 0, 10), 1);
        x.basket(0, 16, 0, 0);
        Check.due("16 of 17", x.of(0, 0, 10), 1);
        x.basket(0, 1, 0, 7);
        Check.due("16 of 17 on 6", x.of(0, 6, 10), 1);
        Check.due("17 of 17 on 7", x.of(0, 7, 10), 0);
        x.drought(0, 0, 10);
        Check.due("foretold 31", x.of(0, 0, 9), 31);
        Check.due("16 of 15 on 6", x.of(0, 6, 10), 0);
        Check.sign(x, "due 1 of 1", 1);
        Check.due("17 of 31", x.of(0, 7, 10), 1);
        Check.sign(x, "", 0);
        Check.due("17 of 0", x.of(0, 7, 10), 0);
    }
}
