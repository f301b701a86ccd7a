import java.util.Random;

/** Promise 17: led. */
public final class LedTest {
    public static void main(String[] args) {
        inOrder();
        asKnown();
        wrongNumbers();
        fullMill();
        for (int seed = 0; seed < 50; seed++) {
            weightByWeight(seed);
        }
        Check.finish();
    }

    private static MillFarmers with(int farmers) {
        MillFarmers x = new MillFarmers();
        for (int i = 0; i < farmers; i++) {
            x.farmer(0, 0, 1);
        }
        return x;
    }

    private static void inOrder() {
        MillFarmers x = with(3);
        x.basket(2, 1, 0, 0);
        x.basket(0, 1000, 4, 0);
        x.basket(2, 2, 0, 0);
        int[][] due = {{0, 2}, {1, 0}, {1000, 0}, {1001, 2}, {1002, 2}, {1003, -1}};
        for (int[] d : due) {
            Check.due("led(" + d[0] + ", 0)", x.led(d[0], 0), d[1]);
        }
    }

    private static void asKnown() {
        MillFarmers x = with(3);
        x.basket(0, 2, 0, 400);
        x.basket(1, 2, 0, 5);
        x.basket(2, 2, 0, 0);
        int[][] due = {{0, 0, 2}, {1, 4, 2}, {2, 4, -1}, {0, 5, 1}, {2, 5, 2}, {3, 399, 2}, {4, 399, -1},
            {0, 400, 0}, {1, 400, 0}, {2, 400, 1}, {5, 400, 2}, {6, 400, -1}};
        for (int[] d : due) {
            Check.due("led(" + d[0] + ", " + d[1] + ")", x.led(d[0], d[1]), d[2]);
        }
    }

    private static void wrongNumbers() {
        MillFarmers x = with(1);
        x.basket(0, 5, 0, 0);
        int low = Integer.MIN_VALUE;
        int high = Integer.MAX_VALUE;
        int[][] wrong = {{-1, 0}, {low, 0}, {high, 0}, {0, -1}, {0, 401}, {0, low}, {0, high}};
        for (int[] w : wrong) {
            Check.due("led(" + w[0] + ", " + w[1] + ")", x.led(w[0], w[1]), -1);
        }
        Check.due("led(0, 400)", x.led(0, 400), 0);
    }

    private static void fullMill() {
        MillFarmers x = with(2);
        for (int i = 0; i < 300; i++) {
            x.basket(i % 2, 1000, 0, i);
        }
        Check.due("led(299999, 299)", x.led(299999, 299), 1);
        Check.due("led(300000, 400)", x.led(300000, 400), -1);
        Check.due("led(299000, 298)", x.led(299000, 298), -1);
    }

    private static void weightByWeight(int seed) {
        Random dice = new Random(seed);
        MillFarmers x = with(5);
        int[] owner = new int[400];
        int end = 0;
        int day = dice.nextInt(401);
        for (int i = 0; i < 30; i++) {
            int farmer = dice.nextInt(5);
            int weight = 1 + dice.nextInt(12);
            int known = dice.nextInt(401);
            x.basket(farmer, weight, 0, known);
            for (int one = 0; known <= day && one < weight; one++) {
                owner[end++] = farmer;
            }
        }
        for (int n = 0; n <= end; n++) {
            Check.due("seed " + seed + ": led(" + n + ", " + day + ")", x.led(n, day),
                    n < end ? owner[n] : -1);
        }
    }
}
