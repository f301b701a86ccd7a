/** Terms I, bound by bound: days, farmers, credits, baskets, and what a call is refused by first. */
public final class Terms1Test {
    private static final int LOW = Integer.MIN_VALUE;
    private static final int HIGH = Integer.MAX_VALUE;

    public static void main(String[] args) {
        days();
        fortyFarmers();
        noFarmerBehindTheLast();
        groups();
        places();
        fields();
        knownByThen();
        firstInThatOrder();
        refusedCallsChangeNothing();
        twoHundredCredits();
        amounts();
        threeHundredBaskets();
        weights();
        grades();
        Check.finish();
    }

    private static MillFarmers with(int farmers) {
        MillFarmers x = new MillFarmers();
        for (int i = 0; i < farmers; i++) {
            x.farmer(0, 0, 1);
        }
        return x;
    }

    private static void days() {
        Check.sentence("DAYS 0 .. 400.");
        MillFarmers x = with(1);
        for (int day : new int[] {0, 1, 399, 400}) {
            Check.due("credit(0, 1, " + day + ") refused", x.credit(0, 1, day) < 0 ? 1 : 0, 0);
            Check.due("basket(0, 1, 0, " + day + ") refused", x.basket(0, 1, 0, day) < 0 ? 1 : 0, 0);
        }
        Check.due("of(0, 0, 1)", x.of(0, 0, 1), 1);
        Check.due("of(0, 400, 1)", x.of(0, 400, 1), 4);
        Check.due("group(0, 0, 1)", x.group(0, 0, 1), 1);
        Check.due("group(0, 400, 1)", x.group(0, 400, 1), 4);
        Check.due("led(0, 0)", x.led(0, 0), 0);
        Check.due("led(3, 400)", x.led(3, 400), 0);
        for (int day : new int[] {-1, 401, LOW, HIGH}) {
            int[] before = Check.counts(x);
            Check.refused(x, before, "credit(0, 1, " + day + ")", x.credit(0, 1, day), -1);
            Check.refused(x, before, "basket(0, 1, 0, " + day + ")", x.basket(0, 1, 0, day), -1);
            Check.due("of(0, " + day + ", 1)", x.of(0, day, 1), -1);
            Check.due("group(0, " + day + ", 1)", x.group(0, day, 1), -1);
            Check.due("led(0, " + day + ")", x.led(0, day), -1);
        }
    }

    private static void fortyFarmers() {
        Check.sentence("FARMERS 0 .. 39 (40 at most)");
        MillFarmers x = new MillFarmers();
        for (int i = 0; i < 40; i++) {
            Check.due("farmer " + i, x.farmer(i % 10, 25 * i, 1 + i), i);
        }
        int[] full = Check.counts(x);
        Check.due("count(0)", full[0], 40);
        Check.refused(x, full, "a 41st farmer", x.farmer(0, 0, 1), -5);
        Check.refused(x, full, "a 42nd farmer", x.farmer(9, 1000, 50), -5);
        Check.due("the last one's credit", x.credit(39, 7, 0), 1);
        Check.due("the last one's basket", x.basket(39, 8, 0, 0), 1);
        Check.due("the last one's visit", x.visit(39, 5000), 1);
        Check.due("the last one's credits", x.of(39, 0, 1), 7);
        Check.due("the last one's weight", x.of(39, 0, 0), 8);
        Check.due("the last one led", x.led(7, 0), 39);
        Check.due("the last one met", x.least(0, 1), 975);
        Check.due("the last one's group", x.group(9, 0, 1), 7);
    }

    private static void noFarmerBehindTheLast() {
        Check.sentence("-2 there is no such FARMER");
        for (int many : new int[] {0, 1, 39, 40}) {
            MillFarmers x = with(many);
            int[] before = Check.counts(x);
            for (int f : new int[] {-1, many, 40, LOW, HIGH}) {
                Check.refused(x, before, "credit(" + f + ", 1, 0) of " + many, x.credit(f, 1, 0), -2);
                Check.refused(x, before, "basket(" + f + ", 1, 0, 0) of " + many, x.basket(f, 1, 0, 0), -2);
                Check.refused(x, before, "visit(" + f + ", 0) of " + many, x.visit(f, 0), -2);
                Check.due("of(" + f + ", 0, 0) of " + many, x.of(f, 0, 0), -1);
            }
        }
    }

    private static void groups() {
        Check.sentence("a GROUP 0 .. 9");
        MillFarmers x = new MillFarmers();
        Check.due("farmer(0, 0, 1)", x.farmer(0, 0, 1), 0);
        Check.due("farmer(9, 0, 1)", x.farmer(9, 0, 1), 1);
        Check.due("farmer(9, 0, 1)", x.farmer(9, 0, 1), 2);
        for (int g = 0; g <= 9; g++) {
            Check.due("group(" + g + ", 0, 0)", x.group(g, 0, 0), g == 0 ? 1 : g == 9 ? 2 : 0);
        }
        int[] before = Check.counts(x);
        for (int g : new int[] {-1, 10, LOW, HIGH}) {
            Check.refused(x, before, "farmer(" + g + ", 0, 1)", x.farmer(g, 0, 1), -1);
            for (int what = 0; what <= 3; what++) {
                Check.due("group(" + g + ", 0, " + what + ")", x.group(g, 0, what), -1);
            }
        }
    }

    private static void places() {
        Check.sentence("a place on the road (0 .. 1000)");
        MillFarmers x = new MillFarmers();
        Check.due("farmer(0, 0, 1)", x.farmer(0, 0, 1), 0);
        Check.due("farmer(0, 1000, 1)", x.farmer(0, 1000, 1), 1);
        int[] before = Check.counts(x);
        for (int place : new int[] {-1, 1001, LOW, HIGH}) {
            Check.refused(x, before, "farmer(0, " + place + ", 1)", x.farmer(0, place, 1), -1);
        }
        x.visit(0, 5000);
        Check.due("the first place from the last", x.least(1000, 1), 1000);
        x.clear();
        x.visit(1, 5000);
        Check.due("the last place from the first", x.least(0, 1), 1000);
    }

    private static void fields() {
        Check.sentence("FIELDS (1 .. 50)");
        MillFarmers x = new MillFarmers();
        Check.due("farmer(0, 0, 1)", x.farmer(0, 0, 1), 0);
        Check.due("farmer(0, 0, 50)", x.farmer(0, 0, 50), 1);
        int[] before = Check.counts(x);
        for (int many : new int[] {0, 51, -1, LOW, HIGH}) {
            Check.refused(x, before, "farmer(0, 0, " + many + ")", x.farmer(0, 0, many), -1);
        }
        x.bears(3);
        Check.due("foretold of one field", x.of(0, 0, 9), 3);
        Check.due("foretold of fifty", x.of(1, 0, 9), 150);
    }

    private static void knownByThen() {
        Check.sentence("As known on a DAY k counts what became known by then.");
        MillFarmers x = with(2);
        Check.sign(x, "price 0 1;debt 0 of 1;stand 1 of 1", 3);
        x.credit(1, 5, 20);
        x.credit(1, 3, 10);
        x.basket(0, 4, 0, 20);
        x.basket(1, 2, 0, 10);
        int[][] due = {{0, 0, 0, 0, 0, -1}, {9, 0, 0, 0, 0, -1}, {10, 3, 0, 2, 1, 1}, {11, 3, 0, 2, 1, 1},
            {19, 3, 0, 2, 1, 1}, {20, 8, 4, 2, 2, 0}, {21, 8, 4, 2, 2, 0}, {400, 8, 4, 2, 2, 0}};
        for (int[] d : due) {
            String on = " on day " + d[0];
            Check.due("credits" + on, x.of(1, d[0], 1), d[1]);
            Check.due("debts of the group" + on, x.group(0, d[0], 1), d[1]);
            Check.due("weight of 0" + on, x.of(0, d[0], 0), d[2]);
            Check.due("weight of 1" + on, x.of(1, d[0], 0), d[3]);
            Check.due("left of the debts" + on, x.group(0, d[0], 3), d[4]);
            Check.due("the first led" + on, x.led(0, d[0]), d[5]);
        }
    }

    private static void firstInThatOrder() {
        Check.sentence("The first of these in that order.");
        MillFarmers x = with(40);
        Check.due("farmer: -1 ahead of -5", x.farmer(10, 0, 1), -1);
        for (int i = 0; i < 200; i++) {
            x.credit(0, 1, 0);
        }
        Check.due("credit: -1 ahead of -2 and -5", x.credit(40, 0, 0), -1);
        Check.due("credit: -1 of the day ahead of -2 and -5", x.credit(40, 1, 401), -1);
        Check.due("credit: -1 ahead of -5", x.credit(0, 100001, 0), -1);
        Check.due("credit: -2 ahead of -5", x.credit(40, 1, 0), -2);
        Check.due("credit: -5", x.credit(0, 1, 0), -5);
        for (int i = 0; i < 16; i++) {
            x.visit(0, 0);
        }
        Check.due("visit: -1 ahead of -2 and -5", x.visit(40, 5001), -1);
        Check.due("visit: -1 ahead of -5", x.visit(0, -1), -1);
        Check.due("visit: -2 ahead of -5", x.visit(-1, 0), -2);
        Check.due("visit: -5", x.visit(0, 0), -5);
        for (int i = 0; i < 60; i++) {
            x.drought(0, 0, 0);
        }
        Check.due("drought: -1 ahead of -5", x.drought(0, 0, 101), -1);
        Check.due("drought: -5", x.drought(0, 0, 100), -5);
        MillFarmers y = with(1);
        Check.due("basket: -1 ahead of -2", y.basket(1, 0, 0, 0), -1);
        for (int i = 0; i < 300; i++) {
            y.basket(0, 1, 0, 0);
        }
        Check.due("basket: -1 of the weight ahead of -2 and -5", y.basket(1, 1001, 0, 0), -1);
        Check.due("basket: -1 of the grade ahead of -2 and -5", y.basket(1, 1, 5, 0), -1);
        Check.due("basket: -1 of the day ahead of -2 and -5", y.basket(1, 1, 0, -1), -1);
        Check.due("basket: -1 ahead of -5", y.basket(0, 1, -1, 0), -1);
        Check.due("basket: -2 ahead of -5", y.basket(1, 1, 0, 0), -2);
        Check.due("basket: -5", y.basket(0, 1, 0, 0), -5);
    }

    private static void refusedCallsChangeNothing() {
        Check.sentence("REFUSED by: -1 a number that can't be");
        MillFarmers x = with(2);
        x.bears(100);
        x.drought(0, 1000, 10);
        Check.sign(x, "price 0 2;due 1 of 2", 2);
        x.credit(0, 9, 0);
        x.basket(0, 30, 0, 0);
        x.visit(0, 3);
        int[] before = Check.counts(x);
        Check.refused(x, before, "farmer(0, 0, 51)", x.farmer(0, 0, 51), -1);
        Check.refused(x, before, "credit(0, 0, 0)", x.credit(0, 0, 0), -1);
        Check.refused(x, before, "basket(0, 0, 0, 0)", x.basket(0, 0, 0, 0), -1);
        Check.refused(x, before, "bears(10001)", x.bears(10001), -1);
        Check.refused(x, before, "drought(0, 1001, 50)", x.drought(0, 1001, 50), -1);
        Check.refused(x, before, "visit(0, 5001)", x.visit(0, 5001), -1);
        long[] due = {30, 9, 60, 9, 51, 0, 0, 51, 0, 90, 1};
        for (int what = 0; what < due.length; what++) {
            Check.due("of(0, 0, " + what + ") behind refused calls", x.of(0, 0, what), due[what]);
        }
        Check.due("most(0) behind refused calls", x.most(0), 1);
    }

    private static void twoHundredCredits() {
        Check.sentence("CREDITS, 200 at most: to a FARMER so much (1 .. 100,000), known from a DAY on.");
        MillFarmers x = with(2);
        for (int i = 1; i <= 199; i++) {
            Check.due("credit " + i, x.credit(0, 100000, 0), i);
        }
        Check.due("the 200th credit", x.credit(1, 1, 400), 200);
        int[] full = Check.counts(x);
        Check.refused(x, full, "a 201st credit", x.credit(1, 1, 0), -5);
        Check.refused(x, full, "a 202nd credit", x.credit(0, 1, 0), -5);
        Check.due("credits of 0", x.of(0, 400, 1), 19900000);
        Check.due("credits of 1 on 399", x.of(1, 399, 1), 0);
        Check.due("credits of 1 on 400", x.of(1, 400, 1), 1);
        Check.due("debts of the group", x.group(0, 400, 1), 19900001);
    }

    private static void amounts() {
        Check.sentence("to a FARMER so much (1 .. 100,000)");
        MillFarmers x = with(1);
        Check.due("credit(0, 1, 0)", x.credit(0, 1, 0), 1);
        Check.due("credit(0, 100000, 0)", x.credit(0, 100000, 0), 2);
        int[] before = Check.counts(x);
        for (int amount : new int[] {0, 100001, -1, LOW, HIGH}) {
            Check.refused(x, before, "credit(0, " + amount + ", 0)", x.credit(0, amount, 0), -1);
        }
        Check.due("credits", x.of(0, 0, 1), 100001);
    }

    private static void threeHundredBaskets() {
        Check.sentence("BASKETS, 300 at most");
        MillFarmers x = with(2);
        for (int i = 1; i <= 299; i++) {
            Check.due("basket " + i, x.basket(0, 1000, 0, 0), i);
        }
        Check.due("the 300th basket", x.basket(1, 1000, 4, 400), 300);
        int[] full = Check.counts(x);
        Check.refused(x, full, "a 301st basket", x.basket(1, 1, 0, 0), -5);
        Check.refused(x, full, "a 302nd basket", x.basket(0, 1, 0, 0), -5);
        Check.due("all weight", x.count(7), 300000);
        Check.due("weight of 0", x.of(0, 400, 0), 299000);
        Check.due("weight of 1 on 399", x.of(1, 399, 0), 0);
        Check.due("weight of 1 on 400", x.of(1, 400, 0), 1000);
    }

    private static void weights() {
        Check.sentence("of a FARMER a weight (1 .. 1000)");
        MillFarmers x = with(1);
        Check.due("basket(0, 1, 0, 0)", x.basket(0, 1, 0, 0), 1);
        Check.due("basket(0, 1000, 0, 0)", x.basket(0, 1000, 0, 0), 2);
        int[] before = Check.counts(x);
        for (int weight : new int[] {0, 1001, -1, LOW, HIGH}) {
            Check.refused(x, before, "basket(0, " + weight + ", 0, 0)", x.basket(0, weight, 0, 0), -1);
        }
        Check.due("weight", x.of(0, 0, 0), 1001);
    }

    private static void grades() {
        Check.sentence("a GRADE 0 .. 4");
        MillFarmers x = with(1);
        Check.sign(x, "price 0 3;price 4 500", 2);
        Check.due("basket(0, 1, 0, 0)", x.basket(0, 1, 0, 0), 1);
        Check.due("check of grade 0", x.of(0, 0, 2), 3);
        Check.due("basket(0, 1, 4, 0)", x.basket(0, 1, 4, 0), 2);
        Check.due("check of grade 4 too", x.of(0, 0, 2), 503);
        int[] before = Check.counts(x);
        for (int grade : new int[] {-1, 5, LOW, HIGH}) {
            Check.refused(x, before, "basket(0, 1, " + grade + ", 0)", x.basket(0, 1, grade, 0), -1);
        }
        Check.due("check still", x.of(0, 0, 2), 503);
    }
}
