/** Promises 1 to 19, one by one: what each sentence says of empty, full, too small, too large, refused. */
public final class PromisesTest {
    private static final int LOW = Integer.MIN_VALUE;
    private static final int HIGH = Integer.MAX_VALUE;
    private static final int BLANKS = 0x20202020;

    public static void main(String[] args) {
        newObject();
        newObjectsApart();
        farmer();
        credit();
        basket();
        feed();
        feedOfAnyBytes();
        feedBeyond();
        end();
        contract();
        contractOfBlanks();
        contractStays();
        fault();
        of();
        ofWrong();
        group();
        groupWrong();
        bears();
        drought();
        visit();
        clear();
        most();
        least();
        led();
        count();
        countWrong();
        status();
        statusOfTheLatest();
        fiveHundredTwelveCalls();
        Check.finish();
    }

    private static MillFarmers with(int farmers) {
        MillFarmers x = new MillFarmers();
        for (int i = 0; i < farmers; i++) {
            x.farmer(0, 0, 1);
        }
        return x;
    }

    private static void newObject() {
        Check.sentence("`MillFarmers()`: No FARMERS, CONTRACT.");
        MillFarmers x = new MillFarmers();
        Check.same(x, new int[8], "nothing");
        Check.due("fault()", x.fault(), -1);
        Check.due("status()", x.status(), 0);
        Check.due("of(0, 0, 0)", x.of(0, 0, 0), -1);
        Check.due("group(0, 0, 0)", x.group(0, 0, 0), 0);
        Check.due("most(0)", x.most(0), 0);
        Check.due("least(0, 0)", x.least(0, 0), 0);
        Check.due("led(0, 0)", x.led(0, 0), -1);
        Check.due("clear()", x.clear(), 0);
        Check.due("end(0)", x.end(0), 0);
        Check.due("end(1)", x.end(1), -1);
        Check.due("credit(0, 1, 0)", x.credit(0, 1, 0), -2);
        Check.due("basket(0, 1, 0, 0)", x.basket(0, 1, 0, 0), -2);
        Check.due("visit(0, 0)", x.visit(0, 0), -2);
        Check.due("bears(0)", x.bears(0), 0);
        Check.same(x, new int[8], "refused calls");
    }

    private static void newObjectsApart() {
        Check.sentence("`MillFarmers()`: No FARMERS, CONTRACT.");
        MillFarmers x = with(1);
        Check.sign(x, "price 0 1", 1);
        x.credit(0, 1, 0);
        x.basket(0, 1, 0, 0);
        x.drought(0, 0, 1);
        x.visit(0, 0);
        x.bears(9);
        x.feed(0, 0, 0, 0, 0);
        MillFarmers y = new MillFarmers();
        Check.same(y, new int[8], "another one's calls");
        Check.due("bears(1) of the new one", y.bears(1), 0);
        Check.same(x, new int[] {1, 1, 1, 1, 1, 1, 20, 1}, "a new one");
    }

    private static void farmer() {
        Check.sentence("A FARMER: the number. -1; -5.");
        MillFarmers x = new MillFarmers();
        Check.due("the first", x.farmer(0, 0, 1), 0);
        Check.due("its status", x.status(), 0);
        Check.due("a wrong one", x.farmer(-1, -1, 0), -1);
        Check.due("its status", x.status(), -1);
        Check.due("the second", x.farmer(9, 1000, 50), 1);
        Check.due("its status", x.status(), 0);
        for (int i = 2; i < 40; i++) {
            x.farmer(0, 0, 1);
        }
        Check.due("one too many", x.farmer(0, 0, 1), -5);
        Check.due("its status", x.status(), -5);
        Check.due("count(0)", x.count(0), 40);
    }

    private static void credit() {
        Check.sentence("CREDITS: how many. -1; -2; -5.");
        MillFarmers x = with(2);
        Check.due("the first", x.credit(1, 100000, 400), 1);
        Check.due("a wrong one", x.credit(1, 0, 400), -1);
        Check.due("one of nobody", x.credit(2, 1, 400), -2);
        Check.due("its status", x.status(), -2);
        Check.due("the second", x.credit(0, 1, 0), 2);
        Check.due("its status", x.status(), 0);
        for (int i = 2; i < 200; i++) {
            x.credit(0, 1, 0);
        }
        Check.due("one too many", x.credit(0, 1, 0), -5);
        Check.due("its status", x.status(), -5);
        Check.due("count(1)", x.count(1), 200);
    }

    private static void basket() {
        Check.sentence("BASKETS: how many. -1; -2; -5.");
        MillFarmers x = with(2);
        Check.due("the first", x.basket(1, 1000, 4, 400), 1);
        Check.due("a wrong one", x.basket(1, 1001, 4, 400), -1);
        Check.due("one of nobody", x.basket(2, 1, 4, 400), -2);
        Check.due("its status", x.status(), -2);
        Check.due("the second", x.basket(0, 1, 0, 0), 2);
        Check.due("its status", x.status(), 0);
        for (int i = 2; i < 300; i++) {
            x.basket(0, 1, 0, 0);
        }
        Check.due("one too many", x.basket(0, 1, 0, 0), -5);
        Check.due("its status", x.status(), -5);
        Check.due("count(2)", x.count(2), 300);
        Check.due("count(7)", x.count(7), 1299);
    }

    private static void feed() {
        Check.sentence("Twenty bytes come behind the TAPE, four of each number, the highest first: how many it has.");
        MillFarmers x = with(1);
        x.basket(0, 1, 0, 0);
        // "pric" "e 0 " "1234" ";quo" "ta 7"
        Check.due("the first twenty", x.feed(0x70726963, 0x65203020, 0x31323334, 0x3b71756f, 0x74612037), 20);
        // "; du" "e 1 " "of 2" and blanks
        Check.due("twenty more", x.feed(0x3b206475, 0x65203120, 0x6f662032, BLANKS, BLANKS), 40);
        Check.due("contract()", x.contract(), 3);
        Check.due("price 0", x.of(0, 0, 2), 1234);
        Check.due("feed of an empty tape again", x.feed(BLANKS, BLANKS, BLANKS, BLANKS, BLANKS), 20);
    }

    private static void feedOfAnyBytes() {
        Check.sentence("Twenty bytes come behind the TAPE, four of each number, the highest first: how many it has.");
        int[] numbers = {0, -1, LOW, HIGH, 0x80808080, 0x20ffffff};
        int[] faults = {0, 0, 0, 0, 0, 1};
        for (int i = 0; i < numbers.length; i++) {
            MillFarmers x = new MillFarmers();
            int n = numbers[i];
            Check.due("feed of " + n, x.feed(n, n, n, n, n), 20);
            Check.due("count(6) behind " + n, x.count(6), 20);
            Check.due("contract() of " + n, x.contract(), -6);
            Check.due("fault() of " + n, x.fault(), faults[i]);
        }
        for (int at = 0; at < 20; at++) {
            MillFarmers x = new MillFarmers();
            int[] n = {BLANKS, BLANKS, BLANKS, BLANKS, BLANKS};
            n[at / 4] ^= 0xdf << 24 - at % 4 * 8;
            x.feed(n[0], n[1], n[2], n[3], n[4]);
            Check.due("contract() with a byte 255 at " + at, x.contract(), -6);
            Check.due("fault() with a byte 255 at " + at, x.fault(), at);
        }
    }

    private static void feedBeyond() {
        Check.sentence("NONE, if there would be more than 200.");
        MillFarmers x = new MillFarmers();
        for (int i = 1; i <= 10; i++) {
            Check.due("feed " + i, x.feed(BLANKS, BLANKS, BLANKS, BLANKS, BLANKS), 20 * i);
        }
        int[] full = Check.counts(x);
        Check.due("feed 11", x.feed(0, 0, 0, 0, 0), -1);
        Check.same(x, full, "feed 11");
        x.end(181);
        Check.due("feed to 201", x.feed(0, 0, 0, 0, 0), -1);
        Check.due("count(6)", x.count(6), 181);
        x.end(180);
        Check.due("feed to 200", x.feed(BLANKS, BLANKS, BLANKS, BLANKS, BLANKS), 200);
        Check.due("what was refused is not there", x.contract(), 0);
        Check.due("feed leaves status", x.status(), 0);
    }

    private static void end() {
        Check.sentence("The TAPE has its first n bytes alone: n. NONE, if it has not so many, or n is below 0.");
        MillFarmers x = new MillFarmers();
        Check.due("end(0) of none", x.end(0), 0);
        Check.due("end(1) of none", x.end(1), -1);
        Check.due("end(-1) of none", x.end(-1), -1);
        Check.tape(x, "quota 12            ");
        Check.due("end(20) of twenty", x.end(20), 20);
        for (int n : new int[] {21, 200, 201, HIGH, -1, LOW}) {
            Check.due("end(" + n + ") of twenty", x.end(n), -1);
            Check.due("count(6) behind end(" + n + ")", x.count(6), 20);
        }
        Check.due("end(7)", x.end(7), 7);
        Check.due("end(8) of seven", x.end(8), -1);
        Check.due("contract() of the first seven", x.contract(), 1);
        Check.due("end(1) behind contract()", x.end(1), -1);
        Check.due("end(0) behind contract()", x.end(0), 0);
        Check.tape(x, "quota 1;x");
        Check.due("end(0) of nine", x.end(0), 0);
        Check.due("contract() of none of them", x.contract(), 0);
    }

    private static void contract() {
        Check.sentence("The TAPE, which is empty then, becomes the CONTRACT: how many CLAUSES");
        MillFarmers x = new MillFarmers();
        Check.sign(x, "quota 1", 1);
        Check.due("count(6)", x.count(6), 0);
        Check.due("count(3)", x.count(3), 1);
        Check.sign(x, "quota 1" + ";quota 1".repeat(19), 20);
        Check.due("count(3) of twenty", x.count(3), 20);
        Check.sign(x, "quota 1;quota 1", 2);
        Check.due("count(3) of two", x.count(3), 2);
        Check.due("a tape of before is gone", x.contract(), 0);
    }

    private static void contractOfBlanks() {
        Check.sentence("(blanks alone: none)");
        for (int n : new int[] {0, 1, 19, 20, 200}) {
            MillFarmers x = with(1);
            x.basket(0, 1, 0, 0);
            Check.sign(x, "price 0 5", 1);
            Check.sign(x, " ".repeat(n), 0);
            Check.due("fault() of " + n + " blanks", x.fault(), -1);
            Check.due("status() of " + n + " blanks", x.status(), 0);
            Check.due("count(3) of " + n + " blanks", x.count(3), 0);
            Check.due("check without a contract", x.of(0, 0, 2), 0);
        }
    }

    private static void contractStays() {
        Check.sentence("-6: it stays, FAULT is told.");
        MillFarmers x = with(2);
        x.basket(0, 10, 0, 0);
        x.credit(0, 8, 0);
        x.credit(1, 9, 0);
        x.bears(21);
        Check.sign(x, "price 0 3;quota 4;over 1 of 2;debt 1 of 3;stand 1 of 4;due 1 of 2", 6);
        String[] wrong = {"price 0 9;quota 9;over 1 of 1;debt 1 of 1;stand 1 of 1;due 1 of 1;x", "price 0 9;",
            "quota 0;quota", "over 0 of 1;over 1 of 0", "debt 0 of 1 ;;", "stand 0 of 1 7", "due 0 of 1;due 9"};
        int[] faults = {66, 10, 13, 22, 13, 13, 16};
        for (int i = 0; i < wrong.length; i++) {
            Check.tape(x, wrong[i]);
            Check.due("contract() of \"" + wrong[i] + "\"", x.contract(), -6);
            Check.due("its fault", x.fault(), faults[i]);
            Check.due("its status", x.status(), -6);
            Check.due("the tape is empty", x.count(6), 0);
            Check.due("the clauses stay", x.count(3), 6);
            long[] due = {10, 8, 21, 7, 14, 1, 3, 11, 0, 21, 0};
            for (int what = 0; what < due.length; what++) {
                Check.due("of(0, 0, " + what + ") behind \"" + wrong[i] + "\"", x.of(0, 0, what), due[what]);
            }
        }
    }

    private static void fault() {
        Check.sentence("FAULT of the latest contract(): its place; NONE without.");
        MillFarmers x = new MillFarmers();
        Check.due("ahead of any", x.fault(), -1);
        Check.tape(x, "quota x");
        Check.due("with a tape alone", x.fault(), -1);
        x.contract();
        Check.due("of a wrong one", x.fault(), 6);
        Check.due("asked again", x.fault(), 6);
        Check.tape(x, "x");
        x.farmer(-1, 0, 1);
        x.bears(1);
        Check.due("ahead of the next one", x.fault(), 6);
        x.contract();
        Check.due("of the next one", x.fault(), 0);
        Check.sign(x, "quota 1", 1);
        Check.due("of a good one", x.fault(), -1);
        Check.tape(x, " ".repeat(199) + "x");
        x.contract();
        Check.due("at the last byte", x.fault(), 199);
        x.contract();
        Check.due("of an empty one", x.fault(), -1);
    }

    private static void of() {
        Check.sentence("what 0 weight of all BASKETS, 1 CREDITS, 2 CHECK, 3 OFF, 4 PAY ahead of STANDING, "
                + "5 DEBT ahead of it, 6 GIVEN, 7 what is left of PAY, 8 of DEBT, 9 FORETOLD, 10 1 if SHORT, else 0");
        MillFarmers x = with(3);
        Check.sign(x, "price 2 10;debt 1 of 2;stand 1 of 2;due 1 of 1", 4);
        x.bears(20);
        x.basket(0, 12, 2, 0);
        x.credit(0, 65, 0);
        x.credit(2, 5, 0);
        long[][] due = {{12, 65, 120, 60, 60, 5, 10, 50, 0, 20, 1}, {0, 0, 0, 0, 0, 0, 0, 0, 0, 20, 1},
            {0, 5, 0, 0, 0, 5, 0, 0, 0, 20, 1}};
        for (int f = 0; f < due.length; f++) {
            for (int what = 0; what <= 10; what++) {
                Check.due("of(" + f + ", 0, " + what + ")", x.of(f, 0, what), due[f][what]);
            }
        }
        x.basket(1, 20, 2, 1);
        Check.due("of(1, 0, 10)", x.of(1, 0, 10), 1);
        Check.due("of(1, 1, 10)", x.of(1, 1, 10), 0);
        Check.due("of(1, 1, 6)", x.of(1, 1, 6), 5);
    }

    private static void ofWrong() {
        Check.sentence("10 1 if SHORT, else 0. NONE.");
        MillFarmers x = with(1);
        for (int what : new int[] {-1, 11, LOW, HIGH}) {
            Check.due("of(0, 0, " + what + ")", x.of(0, 0, what), -1);
        }
        for (int what = 0; what <= 10; what++) {
            for (int f : new int[] {-1, 1, 40, LOW, HIGH}) {
                Check.due("of(" + f + ", 0, " + what + ")", x.of(f, 0, what), -1);
            }
            for (int day : new int[] {-1, 401, LOW, HIGH}) {
                Check.due("of(0, " + day + ", " + what + ")", x.of(0, day, what), -1);
            }
            Check.due("of(0, 0, " + what + ") of nothing", x.of(0, 0, what), 0);
            Check.due("of(0, 400, " + what + ") of nothing", x.of(0, 400, what), 0);
        }
        Check.due("status is left", x.status(), 0);
    }

    private static void group() {
        Check.sentence("what 0 FARMERS, 1 DEBTS ahead of STANDING, 2 GIVEN, 3 DEBTS left");
        MillFarmers x = with(3);
        x.farmer(9, 0, 1);
        Check.sign(x, "price 0 1;stand 1 of 2", 2);
        x.basket(0, 9, 0, 5);
        x.credit(1, 10, 5);
        x.credit(3, 7, 400);
        long[][] due = {{0, 4, 3, 0, 0, 0}, {0, 5, 3, 10, 4, 6}, {9, 399, 1, 0, 0, 0}, {9, 400, 1, 7, 0, 7},
            {1, 400, 0, 0, 0, 0}, {8, 0, 0, 0, 0, 0}};
        for (long[] d : due) {
            for (int what = 0; what <= 3; what++) {
                Check.due("group(" + d[0] + ", " + d[1] + ", " + what + ")",
                        x.group((int) d[0], (int) d[1], what), d[what + 2]);
            }
        }
    }

    private static void groupWrong() {
        Check.sentence("2 GIVEN, 3 DEBTS left. NONE.");
        MillFarmers x = with(1);
        x.bears(-1);
        for (int what : new int[] {-1, 4, LOW, HIGH}) {
            Check.due("group(0, 0, " + what + ")", x.group(0, 0, what), -1);
        }
        for (int what = 0; what <= 3; what++) {
            for (int g : new int[] {-1, 10, LOW, HIGH}) {
                Check.due("group(" + g + ", 0, " + what + ")", x.group(g, 0, what), -1);
            }
            for (int day : new int[] {-1, 401, LOW, HIGH}) {
                Check.due("group(0, " + day + ", " + what + ")", x.group(0, day, what), -1);
            }
        }
        Check.due("status is left", x.status(), -1);
    }

    private static void bears() {
        Check.sentence("YIELD: what it was; -1.");
        MillFarmers x = new MillFarmers();
        int[][] due = {{10000, 0}, {10001, -1}, {0, 10000}, {-1, -1}, {1, 0}, {LOW, -1}, {HIGH, -1}, {2, 1}};
        for (int[] d : due) {
            Check.due("bears(" + d[0] + ")", x.bears(d[0]), d[1]);
            Check.due("status() behind bears(" + d[0] + ")", x.status(), Math.min(d[1], 0));
        }
    }

    private static void drought() {
        Check.sentence("DROUGHT of places from .. to: how many were told. -1; -5.");
        MillFarmers x = new MillFarmers();
        Check.due("the first", x.drought(0, 1000, 100), 1);
        Check.due("its status", x.status(), 0);
        Check.due("a wrong one", x.drought(0, 1001, 100), -1);
        Check.due("its status", x.status(), -1);
        for (int i = 2; i <= 60; i++) {
            Check.due("drought " + i, x.drought(0, 1000, 100), i);
        }
        Check.due("one too many", x.drought(0, 1000, 100), -5);
        Check.due("its status", x.status(), -5);
        Check.due("count(4)", x.count(4), 60);
    }

    private static void visit() {
        Check.sentence("A VISIT behind those that there are: how many. -1; -2; -5 (16).");
        MillFarmers x = with(1);
        Check.due("the first", x.visit(0, 5000), 1);
        Check.due("its status", x.status(), 0);
        Check.due("a wrong one", x.visit(0, 5001), -1);
        Check.due("its status", x.status(), -1);
        Check.due("one of nobody", x.visit(1, 5000), -2);
        Check.due("its status", x.status(), -2);
        for (int i = 2; i <= 16; i++) {
            Check.due("visit " + i, x.visit(0, 0), i);
        }
        Check.due("one too many", x.visit(0, 0), -5);
        Check.due("its status", x.status(), -5);
        x.clear();
        Check.due("the first behind clear()", x.visit(0, 0), 1);
    }

    private static void clear() {
        Check.sentence("VISITS are none: how many there were.");
        MillFarmers x = with(1);
        Check.due("clear() of none", x.clear(), 0);
        x.visit(0, 0);
        Check.due("clear() of one", x.clear(), 1);
        Check.due("clear() again", x.clear(), 0);
        for (int i = 0; i < 16; i++) {
            x.visit(0, 0);
        }
        x.visit(0, 0);
        Check.due("clear() of sixteen", x.clear(), 16);
        Check.due("clear() leaves status", x.status(), -5);
        Check.due("count(5)", x.count(5), 0);
        Check.due("count(0)", x.count(0), 1);
        Check.due("most(0)", x.most(0), 0);
        Check.due("least(0, 0)", x.least(0, 0), 0);
        Check.due("least(0, 1)", x.least(0, 1), -1);
        for (int i = 1; i <= 16; i++) {
            Check.due("visit " + i + " behind clear()", x.visit(0, 0), i);
        }
        Check.due("a 17th one", x.visit(0, 0), -5);
    }

    private static void most() {
        Check.sentence("MOST VISITS from a place (0 .. 1000); NONE.");
        MillFarmers x = new MillFarmers();
        x.farmer(0, 0, 1);
        x.farmer(0, 1000, 1);
        x.visit(0, 0);
        x.visit(1, 0);
        x.visit(1, 999);
        int[][] due = {{0, 1}, {1, 1}, {1000, 2}, {500, 1}, {-1, -1}, {1001, -1}, {LOW, -1}, {HIGH, -1}};
        for (int[] d : due) {
            Check.due("most(" + d[0] + ")", x.most(d[0]), d[1]);
        }
        x.clear();
        Check.due("most(1000) of none", x.most(1000), 0);
        Check.due("most(1001) of none", x.most(1001), -1);
    }

    private static void least() {
        Check.sentence("The least HOUR by which n of the VISITS can be met in time (0 of 0); NONE.");
        MillFarmers x = new MillFarmers();
        x.farmer(0, 0, 1);
        x.farmer(0, 1000, 1);
        Check.due("0 of 0 visits", x.least(1000, 0), 0);
        Check.due("1 of 0 visits", x.least(1000, 1), -1);
        x.visit(0, 1500);
        x.visit(1, 1500);
        int[][] due = {{500, 0, 0}, {500, 1, 500}, {500, 2, 1500}, {500, 3, -1}, {499, 2, 1499}, {0, 0, 0},
            {0, 1, 0}, {0, 2, 1000}, {1000, 2, 1000}, {-1, 0, -1}, {1001, 0, -1}, {1001, 1, -1}, {LOW, 1, -1},
            {HIGH, 1, -1}, {500, -1, -1}, {500, LOW, -1}, {500, HIGH, -1}};
        for (int[] d : due) {
            Check.due("least(" + d[0] + ", " + d[1] + ")", x.least(d[0], d[1]), d[2]);
        }
    }

    private static void led() {
        Check.sentence("LED: the FARMER; NONE.");
        MillFarmers x = with(2);
        x.basket(1, 2, 0, 0);
        int[][] due = {{0, 0, 1}, {1, 400, 1}, {2, 400, -1}, {-1, 0, -1}, {LOW, 0, -1}, {HIGH, 0, -1},
            {0, -1, -1}, {0, 401, -1}, {0, LOW, -1}, {0, HIGH, -1}};
        for (int[] d : due) {
            Check.due("led(" + d[0] + ", " + d[1] + ")", x.led(d[0], d[1]), d[2]);
        }
    }

    private static void count() {
        Check.sentence("0 FARMERS, 1 CREDITS, 2 BASKETS, 3 CLAUSES, 4 DROUGHTS, 5 VISITS, 6 bytes of the TAPE, "
                + "7 all weight");
        MillFarmers x = with(2);
        Check.same(x, new int[] {2, 0, 0, 0, 0, 0, 0, 0}, "two farmers");
        x.credit(0, 9, 400);
        Check.same(x, new int[] {2, 1, 0, 0, 0, 0, 0, 0}, "a credit");
        x.basket(0, 9, 1, 400);
        x.basket(1, 1000, 1, 0);
        Check.same(x, new int[] {2, 1, 2, 0, 0, 0, 0, 1009}, "two baskets");
        Check.sign(x, "quota 1;quota 2;quota 3", 3);
        Check.same(x, new int[] {2, 1, 2, 3, 0, 0, 0, 1009}, "a contract");
        x.drought(0, 0, 0);
        x.drought(0, 0, 0);
        Check.same(x, new int[] {2, 1, 2, 3, 2, 0, 0, 1009}, "two droughts");
        x.visit(0, 0);
        Check.same(x, new int[] {2, 1, 2, 3, 2, 1, 0, 1009}, "a visit");
        x.feed(0, 0, 0, 0, 0);
        x.end(13);
        Check.same(x, new int[] {2, 1, 2, 3, 2, 1, 13, 1009}, "a tape");
        x.contract();
        Check.same(x, new int[] {2, 1, 2, 3, 2, 1, 0, 1009}, "a wrong contract");
        x.contract();
        Check.same(x, new int[] {2, 1, 2, 0, 2, 1, 0, 1009}, "an empty contract");
        x.clear();
        Check.same(x, new int[] {2, 1, 2, 0, 2, 0, 0, 1009}, "clear()");
    }

    private static void countWrong() {
        Check.sentence("NONE for others.");
        MillFarmers x = with(3);
        for (int what : new int[] {-1, 8, 9, LOW, HIGH}) {
            Check.due("count(" + what + ")", x.count(what), -1);
        }
    }

    private static void status() {
        Check.sentence("0 if it was not, or ahead of any.");
        MillFarmers x = new MillFarmers();
        Check.due("ahead of any", x.status(), 0);
        x.end(-1);
        x.count(-1);
        x.most(-1);
        x.led(-1, -1);
        x.of(-1, -1, -1);
        x.group(-1, -1, -1);
        x.least(-1, -1);
        Check.due("behind calls that it does not tell of", x.status(), 0);
        x.farmer(0, 0, 0);
        x.farmer(0, 0, 1);
        Check.due("behind farmer", x.status(), 0);
        x.credit(1, 1, 0);
        x.credit(0, 1, 0);
        Check.due("behind credit", x.status(), 0);
        x.basket(1, 1, 0, 0);
        x.basket(0, 1, 0, 0);
        Check.due("behind basket", x.status(), 0);
        Check.tape(x, "x");
        x.contract();
        x.contract();
        Check.due("behind contract", x.status(), 0);
        x.bears(-1);
        x.bears(0);
        Check.due("behind bears", x.status(), 0);
        x.drought(0, -1, 0);
        x.drought(0, 0, 0);
        Check.due("behind drought", x.status(), 0);
        x.visit(1, 0);
        x.visit(0, 0);
        Check.due("behind visit", x.status(), 0);
    }

    private static void statusOfTheLatest() {
        Check.sentence("What the latest call of farmer, credit, basket, contract, bears, drought, visit was REFUSED by");
        MillFarmers x = with(1);
        x.credit(1, 1, 0);
        x.feed(0, 0, 0, 0, 0);
        x.end(0);
        x.fault();
        x.of(0, 0, 0);
        x.group(0, 0, 0);
        x.clear();
        x.most(0);
        x.least(0, 0);
        x.led(0, 0);
        x.count(0);
        Check.due("behind good calls that it does not tell of", x.status(), -2);
        Check.due("asked again", x.status(), -2);
        Check.tape(x, "x");
        x.contract();
        Check.due("behind contract", x.status(), -6);
        x.farmer(10, 0, 1);
        Check.due("behind farmer", x.status(), -1);
        x.basket(1, 1, 0, 0);
        Check.due("behind basket", x.status(), -2);
        x.bears(-1);
        Check.due("behind bears", x.status(), -1);
        x.visit(1, 0);
        Check.due("behind visit", x.status(), -2);
        x.drought(0, 0, -1);
        Check.due("behind drought", x.status(), -1);
    }

    private static void fiveHundredTwelveCalls() {
        Check.sentence("An object is used for at most 512 calls after it has been made");
        MillFarmers x = with(40);
        for (int i = 1; i <= 200; i++) {
            x.credit(39, 100000, 0);
        }
        for (int i = 1; i <= 269; i++) {
            x.basket(i % 39, 1000, i % 5, 400);
        }
        Check.due("call 510", x.group(0, 400, 1), 20000000);
        Check.due("call 511", x.led(268999, 400), 269 % 39);
        Check.due("call 512", x.count(7), 269000);
    }
}
