/** Promises 5 to 8: feed, end, contract, fault. */
public final class ContractTest {
    public static void main(String[] args) {
        tape();
        highestByteFirst();
        accepted();
        faults();
        manyClauses();
        staysAndGoes();
        lastCounts();
        nothingOfOldOnes();
        defaults();
        Check.finish();
    }

    private static void tape() {
        MillFarmers x = new MillFarmers();
        for (int i = 1; i <= 10; i++) {
            Check.due("feed " + i, x.feed(-1, 0, 1, 2, 3), 20 * i);
        }
        Check.due("an 11th feed", x.feed(0, 0, 0, 0, 0), -1);
        Check.due("count(6)", x.count(6), 200);
        Check.due("end(201)", x.end(201), -1);
        Check.due("end(-1)", x.end(-1), -1);
        Check.due("end of the lowest", x.end(Integer.MIN_VALUE), -1);
        Check.due("end of the highest", x.end(Integer.MAX_VALUE), -1);
        Check.due("count(6) still", x.count(6), 200);
        Check.due("end(200)", x.end(200), 200);
        Check.due("end(181)", x.end(181), 181);
        Check.due("feed to 201", x.feed(0, 0, 0, 0, 0), -1);
        Check.due("count(6) of 181", x.count(6), 181);
        Check.due("end(182)", x.end(182), -1);
        Check.due("end(180)", x.end(180), 180);
        Check.due("feed to 200", x.feed(0, 0, 0, 0, 0), 200);
        Check.due("end(0)", x.end(0), 0);
        Check.due("count(6) of 0", x.count(6), 0);
        Check.due("end(1)", x.end(1), -1);
        Check.due("feed to 20", x.feed(0, 0, 0, 0, 0), 20);
    }

    private static void highestByteFirst() {
        MillFarmers x = new MillFarmers();
        x.farmer(0, 0, 1);
        x.basket(0, 1, 0, 0);
        x.feed(0x70726963, 0x65203020, 0x31323334, 0, 0);
        x.end(12);
        Check.due("contract() of price 0 1234", x.contract(), 1);
        Check.due("its check", x.of(0, 0, 2), 1234);
        Check.tape(x, "price 0 56789");
        x.end(11);
        Check.due("end(9) behind end(11)", x.end(9), 9);
        x.feed(0x38202020, 0x20202020, 0x20202020, 0x20202020, 0x20202020);
        Check.due("contract() of price 0 58", x.contract(), 1);
        Check.due("its check", x.of(0, 0, 2), 58);
        x.feed(0x80808080, 0, 0, 0, 0);
        x.end(4);
        Check.due("contract() of bytes 128", x.contract(), -6);
        Check.due("its fault", x.fault(), 0);
    }

    private static void good(String text, int clauses) {
        MillFarmers x = new MillFarmers();
        Check.sign(x, text, clauses);
        Check.due("fault() of \"" + text + "\"", x.fault(), -1);
        Check.due("status() of \"" + text + "\"", x.status(), 0);
        Check.due("count(3) of \"" + text + "\"", x.count(3), clauses);
        Check.due("count(6) of \"" + text + "\"", x.count(6), 0);
    }

    private static void bad(String text, int fault) {
        MillFarmers x = new MillFarmers();
        Check.tape(x, text);
        Check.due("contract() of \"" + text + "\"", x.contract(), -6);
        Check.due("fault() of \"" + text + "\"", x.fault(), fault);
        Check.due("status() of \"" + text + "\"", x.status(), -6);
        Check.due("count(3) of \"" + text + "\"", x.count(3), 0);
        Check.due("count(6) of \"" + text + "\"", x.count(6), 0);
    }

    private static void accepted() {
        good("", 0);
        good(" ", 0);
        good(" ".repeat(200), 0);
        good("price 0 0", 1);
        good("price 4 10000", 1);
        good("  price 4 10000  ", 1);
        good("price4 10000;quota0", 2);
        good("quota 10000", 1);
        good("quota 00000000000000000000000000000000000000000000000010000", 1);
        good("price 0000000000000000000000000000000000000000000000000004 1", 1);
        good("over0of1", 1);
        good("over 10000 of 10000", 1);
        good("debt 3of4 ; stand 1 of2;due0   of   10000", 3);
        good("quota 1" + " ".repeat(193), 1);
        good(" ".repeat(193) + "quota 1", 1);
    }

    private static void faults() {
        bad(";", 0);
        bad("  ;", 2);
        bad("7", 0);
        bad("of", 0);
        bad("Price 0 1", 0);
        bad("prices 0 1", 0);
        bad("pric 0 1", 0);
        bad("pricequota 1", 0);
        bad("xrice 0 1", 0);
        bad("pricez 0 1", 0);
        bad("price`0 1", 5);
        bad("price{0 1", 5);
        bad("price 0/1", 7);
        bad("price 0:1", 7);
        bad("price", 5);
        bad("price   ", 8);
        bad("price x 1", 6);
        bad("price 5 1", 6);
        bad("price 01", 8);
        bad("price 0", 7);
        bad("price 0 10001", 8);
        bad("price 0 x", 8);
        bad("price 0 -1", 8);
        bad("price 0;", 7);
        bad("price 0 1 2", 10);
        bad("price 0 1 price", 10);
        bad("price 0 1;", 10);
        bad("price 0 1;  ", 12);
        bad("price 0 1;;", 10);
        bad("price 0 1 ; quot 1", 12);
        bad("price 4294967296 1", 6);
        bad("price 18446744073709551616 1", 6);
        bad("price 0 4294967297", 8);
        bad("quota 10001", 6);
        bad("quota 99999999999999999999999999999999999999999999", 6);
        bad("quota", 5);
        bad("quota of", 6);
        bad("quota 1 of 2", 8);
        bad("quota\t1", 5);
        bad("quota 1\n", 7);
        bad("quota 1\u0000", 7);
        bad("quota 1\u00ff", 7);
        bad("over 10001 of 10001", 5);
        bad("over 1", 6);
        bad("over 1 off 2", 7);
        bad("over 1 o 2", 7);
        bad("over 1 2", 7);
        bad("over 1 of", 9);
        bad("over 1 of ", 10);
        bad("over 1 of 10001", 10);
        bad("over 1 of x", 10);
        bad("over 3 of 2", 10);
        bad("over 0 of 0", 10);
        bad("debt 3 of 2", 10);
        bad("stand 3 of 2", 11);
        bad("stand 1 of 0", 11);
        bad("due 3 of 2", 9);
        bad("due 0 of 0", 9);
        bad("due of 2", 4);
        bad("quota 1." + " ".repeat(192), 7);
        bad("quota" + " ".repeat(195), 200);
        bad("quota " + "9".repeat(194), 6);
    }

    private static void manyClauses() {
        String twenty = "quota1" + ";quota1".repeat(19);
        good(twenty, 20);
        good(twenty + "  ", 20);
        bad(twenty + ";quota1", 140);
        bad(twenty + " ;  quota1", 143);
        bad(twenty + ";?", 140);
        bad(twenty + ";", 140);
        bad(twenty + "; ", 141);
        bad(twenty + " 1", 140);
        bad(twenty + " quota1", 140);
        bad("quota1" + ";quota1".repeat(27), 140);
    }

    private static void staysAndGoes() {
        MillFarmers x = new MillFarmers();
        x.farmer(0, 0, 1);
        x.basket(0, 10, 0, 0);
        Check.sign(x, "price 0 3;quota 5;over 1 of 2", 3);
        Check.due("the check", x.of(0, 0, 2), 22);
        Check.tape(x, "price 0 9;quota 7;over 0 of 1;x");
        Check.due("a wrong contract()", x.contract(), -6);
        Check.due("its fault", x.fault(), 30);
        Check.due("fault() again", x.fault(), 30);
        Check.due("the check stays", x.of(0, 0, 2), 22);
        Check.due("the clauses stay", x.count(3), 3);
        Check.sign(x, "price 0 4", 1);
        Check.due("no fault", x.fault(), -1);
        Check.due("the check has no quota", x.of(0, 0, 2), 40);
        Check.due("contract() of nothing", x.contract(), 0);
        Check.due("the check without a contract", x.of(0, 0, 2), 0);
        Check.due("no clauses", x.count(3), 0);
    }

    private static void lastCounts() {
        MillFarmers x = new MillFarmers();
        x.farmer(0, 0, 1);
        x.farmer(0, 0, 1);
        x.basket(0, 10, 0, 0);
        x.basket(0, 10, 1, 0);
        x.credit(0, 50, 0);
        x.credit(1, 100, 0);
        x.bears(100);
        Check.sign(x, "price 0 9;price 1 5;price 0 3;quota 2;quota 15;over 0 of 1;over 1 of 5;"
                + "debt 1 of 1;debt 1 of 3;stand 1 of 1;stand 1 of 9;due 0 of 1;due 1 of 5", 13);
        // within: 10 * 3 + 5 * 5; beyond: 25 / 5
        Check.due("check", x.of(0, 0, 2), 60);
        Check.due("off", x.of(0, 0, 3), 20);
        Check.due("given", x.of(0, 0, 6), 4);
        Check.due("short of 20 with 20", x.of(0, 0, 10), 0);
        Check.sign(x, "due 1 of 5;due 21 of 100", 2);
        Check.due("short of 21 with 20", x.of(0, 0, 10), 1);
    }

    private static void nothingOfOldOnes() {
        MillFarmers x = new MillFarmers();
        x.farmer(0, 0, 1);
        x.farmer(0, 0, 1);
        x.basket(0, 10, 0, 0);
        x.credit(0, 5, 0);
        x.credit(1, 7, 0);
        x.bears(100);
        for (int i = 0; i < 3; i++) {
            Check.sign(x, "price 0 9;price 4 9;quota 1;over 1 of 2;debt 0 of 2;stand 2 of 2;due 1 of 1", 7);
            Check.due("check of all terms", x.of(0, 0, 2), 49);
            Check.due("off of all terms", x.of(0, 0, 3), 0);
            Check.due("given of all terms", x.of(0, 0, 6), 12);
            Check.due("short of all terms", x.of(0, 0, 10), 1);
        }
        for (int i = 0; i < 3; i++) {
            Check.sign(x, "price 0 2", 1);
            Check.due("check of a price alone", x.of(0, 0, 2), 20);
            Check.due("off of a price alone", x.of(0, 0, 3), 5);
            Check.due("given of a price alone", x.of(0, 0, 6), 0);
            Check.due("short of a price alone", x.of(0, 0, 10), 0);
            Check.sign(x, "price 1 2;quota 10;over 1 of 2;debt 0 of 2;stand 2 of 2;due 1 of 1", 6);
            Check.due("check of another price", x.of(0, 0, 2), 0);
        }
    }

    private static void defaults() {
        MillFarmers x = new MillFarmers();
        x.farmer(0, 0, 1);
        x.farmer(0, 0, 1);
        x.basket(0, 1000, 4, 0);
        x.credit(0, 300, 0);
        x.credit(1, 300, 0);
        x.bears(10000);
        Check.due("check without prices", x.of(0, 0, 2), 0);
        Check.due("debt without a check", x.of(0, 0, 5), 300);
        Check.due("not short without due", x.of(1, 0, 10), 0);
        Check.sign(x, "price 4 1", 1);
        Check.due("check without a quota", x.of(0, 0, 2), 1000);
        Check.due("off without debt", x.of(0, 0, 3), 300);
        Check.due("given without stand", x.of(0, 0, 6), 0);
        Check.sign(x, "price 4 1;quota 0", 2);
        Check.due("check beyond without over", x.of(0, 0, 2), 1000);
        Check.sign(x, "price 4 1;quota 0;over 0 of 1", 3);
        Check.due("check beyond with over 0", x.of(0, 0, 2), 0);
    }
}
