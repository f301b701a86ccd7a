/** Promises 1 to 4, 18 and 19: a new object, farmer, credit, basket, count, status. */
public final class NumbersTest {
    private static final int LOW = Integer.MIN_VALUE;
    private static final int HIGH = Integer.MAX_VALUE;

    public static void main(String[] args) {
        newObject();
        farmers();
        farmersRefused();
        credits();
        creditsRefused();
        baskets();
        basketsRefused();
        orderOfRefusals();
        statusOfEach();
        counts();
        Check.finish();
    }

    private static MillFarmers with(int farmers) {
        MillFarmers x = new MillFarmers();
        for (int i = 0; i < farmers; i++) {
            Check.due("farmer " + i, x.farmer(i % 10, i, 1 + i % 50), i);
        }
        return x;
    }

    private static void newObject() {
        MillFarmers x = new MillFarmers();
        for (int what = 0; what <= 7; what++) {
            Check.due("new: count(" + what + ")", x.count(what), 0);
        }
        Check.due("new: status()", x.status(), 0);
        Check.due("new: fault()", x.fault(), -1);
        Check.due("new: of(0, 0, 0)", x.of(0, 0, 0), -1);
        Check.due("new: led(0, 400)", x.led(0, 400), -1);
        Check.due("new: most(0)", x.most(0), 0);
        Check.due("new: least(0, 0)", x.least(0, 0), 0);
        Check.due("new: clear()", x.clear(), 0);
        Check.due("new: bears(0)", x.bears(0), 0);
        for (int what = 0; what <= 3; what++) {
            Check.due("new: group(9, 400, " + what + ")", x.group(9, 400, what), 0);
        }
    }

    private static void farmers() {
        MillFarmers x = with(40);
        Check.due("a 41st farmer", x.farmer(0, 0, 1), -5);
        Check.due("its status", x.status(), -5);
        Check.due("a wrong 41st farmer", x.farmer(0, 0, 0), -1);
        Check.due("count(0)", x.count(0), 40);
        Check.due("of the last", x.of(39, 0, 0), 0);
        Check.due("of one behind", x.of(40, 0, 0), -1);
    }

    private static void farmersRefused() {
        MillFarmers x = new MillFarmers();
        int[][] wrong = {{-1, 0, 1}, {10, 0, 1}, {0, -1, 1}, {0, 1001, 1}, {0, 0, 0}, {0, 0, 51},
            {0, 0, -1}, {LOW, 0, 1}, {HIGH, 0, 1}, {0, LOW, 1}, {0, HIGH, 1}, {0, 0, LOW}, {0, 0, HIGH}};
        for (int[] w : wrong) {
            Check.due("farmer(" + w[0] + ", " + w[1] + ", " + w[2] + ")", x.farmer(w[0], w[1], w[2]), -1);
            Check.due("its status", x.status(), -1);
        }
        Check.due("count(0)", x.count(0), 0);
        Check.due("farmer(0, 0, 1)", x.farmer(0, 0, 1), 0);
        Check.due("status behind it", x.status(), 0);
        Check.due("farmer(9, 1000, 50)", x.farmer(9, 1000, 50), 1);
    }

    private static void credits() {
        MillFarmers x = with(2);
        for (int i = 1; i <= 200; i++) {
            Check.due("credit " + i, x.credit(i % 2, i % 2 == 0 ? 1 : 100000, i * 2), i);
        }
        Check.due("a 201st credit", x.credit(0, 1, 0), -5);
        Check.due("its status", x.status(), -5);
        Check.due("a 201st credit of no farmer", x.credit(2, 1, 0), -2);
        Check.due("a 201st credit of 0", x.credit(2, 0, 0), -1);
        Check.due("count(1)", x.count(1), 200);
        Check.due("credits of 0 on 400", x.of(0, 400, 1), 100);
        Check.due("credits of 1 on 400", x.of(1, 400, 1), 10000000);
        Check.due("credits of 1 on 1", x.of(1, 1, 1), 0);
        Check.due("credits of 1 on 2", x.of(1, 2, 1), 100000);
        Check.due("credits of 0 on 7", x.of(0, 7, 1), 1);
        Check.due("credits of 0 on 8", x.of(0, 8, 1), 2);
    }

    private static void creditsRefused() {
        MillFarmers x = with(1);
        int[][] wrong = {{0, 0, 0}, {0, -1, 0}, {0, 100001, 0}, {0, 1, -1}, {0, 1, 401},
            {0, LOW, 0}, {0, HIGH, 0}, {0, 1, LOW}, {0, 1, HIGH}, {1, 0, 0}, {1, 1, 401}};
        for (int[] w : wrong) {
            Check.due("credit(" + w[0] + ", " + w[1] + ", " + w[2] + ")", x.credit(w[0], w[1], w[2]), -1);
            Check.due("its status", x.status(), -1);
        }
        for (int f : new int[] {1, 39, 40, -1, LOW, HIGH}) {
            Check.due("credit(" + f + ", 1, 0)", x.credit(f, 1, 0), -2);
            Check.due("its status", x.status(), -2);
        }
        Check.due("count(1)", x.count(1), 0);
        Check.due("credit(0, 100000, 400)", x.credit(0, 100000, 400), 1);
        Check.due("status behind it", x.status(), 0);
    }

    private static void baskets() {
        MillFarmers x = with(2);
        for (int i = 1; i <= 300; i++) {
            Check.due("basket " + i, x.basket(i % 2, i % 2 == 0 ? 1 : 1000, i % 5, i), i);
        }
        Check.due("a 301st basket", x.basket(0, 1, 0, 0), -5);
        Check.due("its status", x.status(), -5);
        Check.due("a 301st basket of no farmer", x.basket(2, 1, 0, 0), -2);
        Check.due("a 301st basket of grade 5", x.basket(2, 1, 5, 0), -1);
        Check.due("count(2)", x.count(2), 300);
        Check.due("count(7)", x.count(7), 150150);
        Check.due("weight of 0 on 400", x.of(0, 400, 0), 150);
        Check.due("weight of 1 on 400", x.of(1, 400, 0), 150000);
        Check.due("weight of 1 on 4", x.of(1, 4, 0), 2000);
        Check.due("weight of 1 on 5", x.of(1, 5, 0), 3000);
        Check.due("weight of 0 on 0", x.of(0, 0, 0), 0);
    }

    private static void basketsRefused() {
        MillFarmers x = with(1);
        int[][] wrong = {{0, 0, 0, 0}, {0, 1001, 0, 0}, {0, -1, 0, 0}, {0, 1, -1, 0}, {0, 1, 5, 0},
            {0, 1, 0, -1}, {0, 1, 0, 401}, {0, LOW, 0, 0}, {0, HIGH, 0, 0}, {0, 1, LOW, 0},
            {0, 1, HIGH, 0}, {0, 1, 0, LOW}, {0, 1, 0, HIGH}, {1, 0, 0, 0}};
        for (int[] w : wrong) {
            Check.due("basket(" + w[0] + ", " + w[1] + ", " + w[2] + ", " + w[3] + ")",
                    x.basket(w[0], w[1], w[2], w[3]), -1);
            Check.due("its status", x.status(), -1);
        }
        for (int f : new int[] {1, 39, 40, -1, LOW, HIGH}) {
            Check.due("basket(" + f + ", 1, 0, 0)", x.basket(f, 1, 0, 0), -2);
            Check.due("its status", x.status(), -2);
        }
        Check.due("count(2)", x.count(2), 0);
        Check.due("count(7)", x.count(7), 0);
        Check.due("basket(0, 1000, 4, 400)", x.basket(0, 1000, 4, 400), 1);
        Check.due("status behind it", x.status(), 0);
    }

    private static void orderOfRefusals() {
        MillFarmers x = new MillFarmers();
        Check.due("credit without farmers", x.credit(0, 1, 0), -2);
        Check.due("basket without farmers", x.basket(0, 1, 0, 0), -2);
        Check.due("visit without farmers", x.visit(0, 0), -2);
        Check.due("visit in no hour without farmers", x.visit(0, -1), -1);
    }

    private static void statusOfEach() {
        MillFarmers x = with(1);
        x.farmer(0, 0, 0);
        Check.due("status behind farmer", x.status(), -1);
        Check.due("status twice", x.status(), -1);
        x.feed(0, 0, 0, 0, 0);
        x.end(-1);
        x.fault();
        x.of(0, 0, 0);
        x.group(0, 0, 0);
        x.clear();
        x.most(-1);
        x.least(-1, 0);
        x.led(-1, 0);
        x.count(-1);
        Check.due("status behind calls that leave it", x.status(), -1);
        x.bears(5);
        Check.due("status behind bears", x.status(), 0);
        x.contract();
        Check.due("status behind contract", x.status(), -6);
        x.most(0);
        x.led(0, 0);
        Check.due("status still", x.status(), -6);
        x.contract();
        Check.due("status behind a good contract", x.status(), 0);
        x.bears(-1);
        Check.due("status behind wrong bears", x.status(), -1);
        x.drought(0, 0, 0);
        Check.due("status behind drought", x.status(), 0);
        x.drought(0, 0, 101);
        Check.due("status behind a wrong drought", x.status(), -1);
        x.visit(0, 0);
        Check.due("status behind visit", x.status(), 0);
        x.visit(1, 0);
        Check.due("status behind a visit of nobody", x.status(), -2);
        x.credit(0, 1, 0);
        Check.due("status behind credit", x.status(), 0);
    }

    private static void counts() {
        MillFarmers x = with(3);
        x.credit(0, 1, 400);
        x.credit(1, 1, 0);
        x.basket(0, 7, 0, 400);
        x.basket(0, 8, 0, 0);
        x.basket(2, 9, 0, 200);
        x.basket(2, 1, 0, 200);
        Check.sign(x, "quota 1;quota 2;quota 3;quota 4;quota 5", 5);
        for (int i = 0; i < 6; i++) {
            x.drought(0, 0, 0);
        }
        for (int i = 0; i < 7; i++) {
            x.visit(0, 0);
        }
        x.feed(0, 0, 0, 0, 0);
        x.end(8);
        int[] due = {3, 2, 4, 5, 6, 7, 8, 25};
        for (int what = 0; what < due.length; what++) {
            Check.due("count(" + what + ")", x.count(what), due[what]);
        }
        for (int what : new int[] {-1, 8, LOW, HIGH}) {
            Check.due("count(" + what + ")", x.count(what), -1);
        }
    }
}
