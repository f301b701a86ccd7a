/** Terms V at its edges: whose the n-th weight at the mill is. */
public final class Terms5Test {
    private static final int LOW = Integer.MIN_VALUE;
    private static final int HIGH = Integer.MAX_VALUE;

    public static void main(String[] args) {
        fromZeroOn();
        orderOfBaskets();
        knownOnADay();
        nothingWeighed();
        allThatCanBeWeighed();
        Check.finish();
    }

    private static MillFarmers with(int farmers) {
        MillFarmers x = new MillFarmers();
        for (int i = 0; i < farmers; i++) {
            x.farmer(i, 0, 1);
        }
        return x;
    }

    private static void led(MillFarmers x, int day, int... due) {
        for (int n = 0; n < due.length; n++) {
            Check.due("led(" + n + ", " + day + ")", x.led(n, day), due[n]);
        }
    }

    private static void fromZeroOn() {
        Check.sentence("weight by weight from 0 on: whose the n-th is");
        MillFarmers x = with(2);
        x.basket(1, 1, 0, 0);
        led(x, 0, 1, -1);
        x.basket(0, 3, 0, 0);
        led(x, 0, 1, 0, 0, 0, -1, -1);
        for (int n : new int[] {-1, LOW, HIGH}) {
            Check.due("led(" + n + ", 0)", x.led(n, 0), -1);
        }
    }

    private static void orderOfBaskets() {
        Check.sentence("in the order of BASKETS");
        MillFarmers x = with(3);
        x.basket(2, 1, 0, 30);
        x.basket(0, 2, 4, 10);
        x.basket(2, 1, 0, 20);
        x.basket(1, 1, 0, 0);
        led(x, 30, 2, 0, 0, 2, 1, -1);
    }

    private static void knownOnADay() {
        Check.sentence("of all that is weighed at the mill as known on a DAY");
        MillFarmers x = with(3);
        x.basket(0, 1, 0, 400);
        x.basket(1, 2, 0, 200);
        x.basket(2, 1, 0, 0);
        led(x, 0, 2, -1);
        led(x, 199, 2, -1);
        led(x, 200, 1, 1, 2, -1);
        led(x, 399, 1, 1, 2, -1);
        led(x, 400, 0, 1, 1, 2, -1);
        for (int day : new int[] {-1, 401, LOW, HIGH}) {
            Check.due("led(0, " + day + ")", x.led(0, day), -1);
        }
    }

    private static void nothingWeighed() {
        Check.sentence("LED: of all that is weighed at the mill");
        MillFarmers x = new MillFarmers();
        led(x, 400, -1, -1);
        x.farmer(0, 0, 1);
        led(x, 400, -1, -1);
        x.basket(0, 1001, 0, 0);
        led(x, 400, -1, -1);
    }

    private static void allThatCanBeWeighed() {
        Check.sentence("LED: of all that is weighed at the mill");
        MillFarmers x = with(3);
        for (int i = 0; i < 300; i++) {
            x.basket(i == 299 ? 2 : i % 2, 1000, 0, 0);
        }
        int[][] due = {{0, 0}, {999, 0}, {1000, 1}, {1999, 1}, {2000, 0}, {298999, 0}, {299000, 2}, {299999, 2},
            {300000, -1}};
        for (int[] d : due) {
            Check.due("led(" + d[0] + ", 0)", x.led(d[0], 0), d[1]);
        }
    }
}
