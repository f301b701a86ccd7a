/** Terms II, the text of a contract: what it may say, where its fault is, what counts of it. */
public final class Terms2TextTest {
    private static final String[] SHARES = {"over", "debt", "stand", "due"};

    public static void main(String[] args) {
        twoHundredBytes();
        blanks();
        letters();
        digits();
        otherBytes();
        clauseBehindClause();
        eachClause();
        gradesToFour();
        numbersToTenThousand();
        numbersThatWouldWrapAround();
        behindOf();
        firstTokenThatCannotGoOn();
        theEnd();
        twentyClauses();
        lastOfEachSort();
        without();
        withoutWhatOlderOnesHad();
        Check.finish();
    }

    private static void good(String text, int clauses) {
        MillFarmers x = new MillFarmers();
        Check.tape(x, text);
        Check.due("contract() of \"" + text + "\"", x.contract(), clauses);
        Check.due("fault() of \"" + text + "\"", x.fault(), -1);
        Check.due("status() of \"" + text + "\"", x.status(), 0);
        Check.due("count(3) of \"" + text + "\"", x.count(3), clauses);
    }

    private static void bad(String text, int fault) {
        MillFarmers x = new MillFarmers();
        Check.tape(x, text);
        Check.due("contract() of \"" + text + "\"", x.contract(), -6);
        Check.due("fault() of \"" + text + "\"", x.fault(), fault);
        Check.due("status() of \"" + text + "\"", x.status(), -6);
        Check.due("count(3) of \"" + text + "\"", x.count(3), 0);
    }

    /** The check of one basket of weight 1 and grade 0, which is the price of that grade. */
    private static void price(String text, int clauses, long due) {
        MillFarmers x = new MillFarmers();
        x.farmer(0, 0, 1);
        x.basket(0, 1, 0, 0);
        Check.sign(x, text, clauses);
        Check.due("price 0 by \"" + text + "\"", x.of(0, 0, 2), due);
    }

    private static void twoHundredBytes() {
        Check.sentence("A CONTRACT is a TEXT of at most 200 bytes");
        price("quota 123;".repeat(19) + "price 0 17", 20, 17);
        price(" ".repeat(191) + "price 0 1", 1, 1);
        price("price 0 1" + " ".repeat(191), 1, 1);
        price("price" + " ".repeat(97) + "0" + " ".repeat(96) + "7", 1, 7);
        bad("quota 1" + " ".repeat(192) + "x", 199);
        MillFarmers x = new MillFarmers();
        Check.tape(x, "quota 1" + " ".repeat(193));
        Check.due("feed beyond 200", x.feed(0, 0, 0, 0, 0), -1);
        Check.due("contract() of the 200", x.contract(), 1);
    }

    private static void blanks() {
        Check.sentence("any blanks (32) between TOKENS");
        good("over1of2;price0 1;quota3", 3);
        good("over 1 of 2 ; price 0 1 ; quota 3", 3);
        good("   over   1   of   2   ;   price   0   1   ;   quota   3   ", 3);
        bad("price\t0 1", 5);
        bad("price 0\n1", 7);
        bad("price 0 1\r", 9);
        bad("price 0 1\u00a0", 9);
        bad("price 0 1\u0000", 9);
    }

    private static void letters() {
        Check.sentence("longest rows of letters a .. z");
        bad("pricequota 1", 0);
        bad("prices 0 1", 0);
        bad("pric 0 1", 0);
        bad("pri ce 0 1", 0);
        bad("p", 0);
        bad("duedue 0 of 1", 0);
        bad("over 1 ofof 2", 7);
        bad("over 1 o f 2", 7);
        bad("over 1 ofz2", 7);
        bad("over 1 aof 2", 7);
        bad("quota 1;aquota 1", 8);
        bad("quota 1;quotz 1", 8);
        for (String word : new String[] {"xrice 0 1", "xuota 1", "xver 1 of 2", "xebt 1 of 2", "xtand 1 of 2",
            "xue 1 of 2"}) {
            bad(word, 0);
        }
        bad("over 1 xf 2", 7);
        bad("Quota 1", 0);
        bad("quotA 1", 0);
        bad("quota`1", 5);
        bad("quota{1", 5);
        bad("`quota 1", 0);
        bad("z" + " ".repeat(3), 0);
    }

    private static void digits() {
        Check.sentence("of digits");
        price("price0 19", 1, 19);
        price("price 0 19", 1, 19);
        bad("price 0 1 9", 10);
        bad("price01 9 9", 10);
        bad("price 03", 8);
        bad("price 09", 6);
        bad("price 00 0 1", 11);
        bad("quota 1 0", 8);
        bad("price 0/1", 7);
        bad("price 0:1", 7);
        bad("quota 1/", 7);
        bad("quota 9:", 7);
    }

    private static void otherBytes() {
        Check.sentence("single other bytes");
        bad(";;", 0);
        bad("quota 1;;", 8);
        bad("quota 1;;quota 1", 8);
        bad("quota 1,quota 1", 7);
        bad("quota -1", 6);
        bad("quota +1", 6);
        bad("quota 1.5", 7);
        bad("OVER 1 OF 2", 0);
        bad("over 1 OF 2", 7);
        for (int one : new int[] {0, 1, 31, 33, 47, 58, 59, 64, 65, 90, 91, 96, 123, 127, 128, 160, 255}) {
            bad((char) one + "quota 1", 0);
            bad("quota" + (char) one + "1", 5);
            bad("quota 1" + (char) one, one == ';' ? 8 : 7);
        }
    }

    private static void clauseBehindClause() {
        Check.sentence("CLAUSE {\";\" CLAUSE}");
        good("quota 1", 1);
        good("quota 1;quota 1", 2);
        bad(";quota 1", 0);
        bad("quota 1;", 8);
        bad("quota 1;  ", 10);
        bad("quota 1 quota 1", 8);
        bad("quota 1; ;quota 1", 9);
        bad("quota 1;7", 8);
        bad("quota 1;of", 8);
    }

    private static void eachClause() {
        Check.sentence("CLAUSE: \"price\" GRADE NUMBER | \"quota\" NUMBER | \"over\" NUMBER \"of\" NUMBER");
        bad("price", 5);
        bad("price;", 5);
        bad("price of", 6);
        bad("price 0", 7);
        bad("price 0;", 7);
        bad("price 0 of", 8);
        bad("price 0 1 of 2", 10);
        bad("quota", 5);
        bad("quota;", 5);
        bad("quota of", 6);
        bad("quota 1 of 2", 8);
        for (String share : SHARES) {
            int n = share.length();
            good(share + " 1 of 2", 1);
            bad(share, n);
            bad(share + ";", n);
            bad(share + " of", n + 1);
            bad(share + " 1", n + 2);
            bad(share + " 1;", n + 2);
            bad(share + " 1 2", n + 3);
            bad(share + " 1 quota", n + 3);
            bad(share + " 1 of", n + 5);
            bad(share + " 1 of;", n + 5);
            bad(share + " 1 of of", n + 6);
            bad(share + " 1 of 2 3", n + 8);
            bad(share + " 1 of 2 of 3", n + 8);
        }
    }

    private static void gradesToFour() {
        Check.sentence("GRADES to 4");
        for (int grade = 0; grade <= 4; grade++) {
            MillFarmers x = new MillFarmers();
            x.farmer(0, 0, 1);
            for (int g = 0; g <= 4; g++) {
                x.basket(0, 1, g, g);
            }
            Check.sign(x, "price " + grade + " 10", 1);
            for (int day = 0; day <= 4; day++) {
                Check.due("check on " + day + " by grade " + grade, x.of(0, day, 2), day < grade ? 0 : 10);
            }
        }
        bad("price 5 1", 6);
        bad("price 5 10001", 6);
        bad("price 9 1", 6);
        bad("price 10 1", 6);
        bad("price 44 1", 6);
        bad("price 10000 1", 6);
    }

    private static void numbersToTenThousand() {
        Check.sentence("NUMBERS to 10,000");
        price("price 0 0", 1, 0);
        price("price 0 10000", 1, 10000);
        bad("price 0 10001", 8);
        bad("price 0 99999", 8);
        good("quota 0", 1);
        good("quota 10000", 1);
        bad("quota 10001", 6);
        bad("quota 100000", 6);
        for (String share : SHARES) {
            int n = share.length();
            good(share + " 0 of 10000", 1);
            good(share + " 10000 of 10000", 1);
            bad(share + " 10001 of 10000", n + 1);
            bad(share + " 10001 of 10001", n + 1);
            bad(share + " 0 of 10001", n + 6);
            bad(share + " 10000 of 10001", n + 10);
        }
    }

    private static void numbersThatWouldWrapAround() {
        Check.sentence("NUMBERS to 10,000");
        for (String number : new String[] {"2147483648", "4294967295", "4294967296", "4294967297",
            "9223372036854775808", "18446744073709551615", "18446744073709551617", "9".repeat(150)}) {
            bad("quota " + number, 6);
            bad("price " + number + " 1", 6);
            bad("price 0 " + number, 8);
            bad("over " + number + " of 1", 5);
            bad("over 0 of " + number, 10);
        }
    }

    private static void behindOf() {
        Check.sentence("behind \"of\" 1 at least and not below the one ahead");
        for (String share : SHARES) {
            int n = share.length();
            good(share + " 0 of 1", 1);
            good(share + " 1 of 1", 1);
            good(share + " 7 of 7", 1);
            good(share + " 7 of 8", 1);
            bad(share + " 0 of 0", n + 6);
            bad(share + " 1 of 0", n + 6);
            bad(share + " 8 of 7", n + 6);
            bad(share + " 2 of 1", n + 6);
            bad(share + " 10000 of 9999", n + 10);
        }
    }

    private static void firstTokenThatCannotGoOn() {
        Check.sentence("FAULT: the first TOKEN that can't go on there");
        bad("x", 0);
        bad("   x", 3);
        bad("quota x;price 9 9", 6);
        bad("quota 1;price 9 x", 14);
        bad("quota 1;price 4 x", 16);
        bad("over 3 of 2;x", 10);
        bad("over 10001 of", 5);
        bad("quota 1 x", 8);
        bad("quota    77777", 9);
    }

    private static void theEnd() {
        Check.sentence("(the end's: the TEXT's length)");
        bad("price", 5);
        bad("price ", 6);
        bad("price 0", 7);
        bad("price 0   ", 10);
        bad("over 1 of", 9);
        bad("quota 1;", 8);
        bad("quota" + " ".repeat(195), 200);
        bad("quota 123;".repeat(20), 200);
    }

    private static void twentyClauses() {
        Check.sentence("20 CLAUSES at most (the 21st's first TOKEN)");
        String nineteen = "quota1" + ";quota1".repeat(18);
        String twenty = nineteen + ";price0 8";
        price(twenty, 20, 8);
        price(twenty + "   ", 20, 8);
        int end = twenty.length();
        bad(twenty + ";quota1", end + 1);
        bad(twenty + "  ;   quota1", end + 6);
        bad(twenty + ";price 9 9", end + 1);
        bad(twenty + ";x", end + 1);
        bad(twenty + ";;", end + 1);
        bad(twenty + ";", end + 1);
        bad(twenty + ";  ", end + 3);
        bad(twenty + "x", end);
        bad(nineteen + ";quota", nineteen.length() + 6);
        bad("quota1" + ";quota1".repeat(27), 140);
    }

    private static void lastOfEachSort() {
        Check.sentence("Of each sort (of \"price\" of each GRADE) the last counts");
        price("price 0 5;price 0 9", 2, 9);
        price("price 0 9;price 0 5", 2, 5);
        price("price 0 9;price 0 0", 2, 0);
        price("price 0 9;price 1 5", 2, 9);
        price("price 0 9;quota 0;over 0 of 1;quota 1", 4, 9);
        price("price 0 9;quota 1;over 0 of 1;quota 0", 4, 0);
        price("price 0 9;over 0 of 1;quota 0;over 1 of 3", 4, 3);
        price("price 0 9;over 1 of 3;quota 0;over 0 of 1", 4, 0);
        MillFarmers x = standing();
        Check.sign(x, "price 0 1;debt 1 of 1;debt 0 of 1;stand 0 of 1;stand 1 of 1;due 0 of 1;due 1 of 1", 7);
        results(x, 0, 7, 1);
        Check.sign(x, "price 0 1;debt 0 of 1;debt 1 of 1;stand 1 of 1;stand 0 of 1;due 1 of 1;due 0 of 1", 7);
        results(x, 4, 0, 0);
    }

    private static void without() {
        Check.sentence("without: PRICES 0, no quota, over 1 of 1, debt 1 of 1, stand 0 of 1, due 0 of 1");
        MillFarmers x = standing();
        Check.due("check of a new object", x.of(0, 0, 2), 0);
        results(x, 0, 0, 0);
        Check.sign(x, "", 0);
        Check.due("check without prices", x.of(0, 0, 2), 0);
        Check.sign(x, "price 1 9", 1);
        Check.due("check without a price of its grade", x.of(0, 0, 2), 0);
        Check.sign(x, "price 0 1;over 0 of 1", 2);
        Check.due("check without a quota", x.of(0, 0, 2), 10);
        Check.sign(x, "price 0 1;quota 0", 2);
        Check.due("check without over", x.of(0, 0, 2), 10);
        Check.sign(x, "price 0 1;stand 1 of 1;due 1 of 1", 3);
        results(x, 4, 3, 1);
        Check.sign(x, "price 0 1;debt 0 of 1;due 1 of 1", 3);
        results(x, 0, 0, 1);
        Check.sign(x, "price 0 1;debt 0 of 1;stand 1 of 1", 3);
        results(x, 0, 7, 0);
        Check.tape(x, "x");
        Check.due("a wrong contract", x.contract(), -6);
        results(x, 0, 7, 0);
        Check.sign(x, " ", 0);
        results(x, 0, 0, 0);
    }

    private static void withoutWhatOlderOnesHad() {
        Check.sentence("without: PRICES 0, no quota, over 1 of 1, debt 1 of 1, stand 0 of 1, due 0 of 1");
        MillFarmers x = standing();
        for (int i = 0; i < 3; i++) {
            for (int twice = 0; twice < 2; twice++) {
                Check.sign(x, "price 0 1;quota 2;over 1 of 2;debt 0 of 1;stand 1 of 1;due 1 of 1", 6);
                Check.due("check by all clauses", x.of(0, 0, 2), 6);
                results(x, 0, 6, 1);
            }
            for (int twice = 0; twice < 2; twice++) {
                Check.sign(x, "price 0 1", 1);
                Check.due("check by a price alone", x.of(0, 0, 2), 10);
                results(x, 4, 0, 0);
            }
            Check.sign(x, "quota 2", 1);
            Check.due("check without the price of before", x.of(0, 0, 2), 0);
        }
    }

    /** Farmer 0 has brought 10 and owes 4, 1 owes 3; foretold is 11. */
    private static MillFarmers standing() {
        MillFarmers x = new MillFarmers();
        x.farmer(0, 0, 1);
        x.farmer(0, 0, 1);
        x.basket(0, 10, 0, 0);
        x.credit(0, 4, 0);
        x.credit(1, 3, 0);
        x.bears(11);
        return x;
    }

    private static void results(MillFarmers x, long off, long given, long isShort) {
        Check.due("off", x.of(0, 0, 3), off);
        Check.due("given", x.of(0, 0, 6), given);
        Check.due("short", x.of(0, 0, 10), isShort);
    }
}
