/** Terms III at its edges: yield, drought, foretold, short. */
public final class Terms3Test {
    private static final int LOW = Integer.MIN_VALUE;
    private static final int HIGH = Integer.MAX_VALUE;

    public static void main(String[] args) {
        yields();
        fromOneToAnother();
        hundredths();
        lastToldCounts();
        sixtyDroughts();
        foretold();
        greatestForetold();
        shortOnes();
        shortByTheDay();
        greatestDue();
        Check.finish();
    }

    private static MillFarmers at(int fields, int... places) {
        MillFarmers x = new MillFarmers();
        for (int place : places) {
            x.farmer(0, place, fields);
        }
        return x;
    }

    private static void foretold(MillFarmers x, String when, long... due) {
        for (int i = 0; i < due.length; i++) {
            Check.due("foretold of " + i + " " + when, x.of(i, 0, 9), due[i]);
        }
    }

    private static void yields() {
        Check.sentence("YIELD of a FIELD (0 .. 10,000; 0 at first)");
        MillFarmers x = at(1, 0);
        foretold(x, "at first", 0);
        Check.due("bears(10000)", x.bears(10000), 0);
        foretold(x, "of the most", 10000);
        int[] before = Check.counts(x);
        for (int each : new int[] {-1, 10001, LOW, HIGH}) {
            Check.refused(x, before, "bears(" + each + ")", x.bears(each), -1);
            foretold(x, "behind a refused one", 10000);
        }
        Check.due("bears(0)", x.bears(0), 10000);
        foretold(x, "of none", 0);
        Check.due("bears(1)", x.bears(1), 0);
        Check.due("its status", x.status(), 0);
        foretold(x, "of one", 1);
    }

    private static void fromOneToAnother() {
        Check.sentence("DROUGHT of places: from one to another one so many hundredths are lost");
        MillFarmers x = at(1, 0, 299, 300, 400, 401, 1000);
        x.bears(100);
        foretold(x, "without droughts", 100, 100, 100, 100, 100, 100);
        Check.due("drought(300, 400, 25)", x.drought(300, 400, 25), 1);
        foretold(x, "from 300 to 400", 100, 100, 75, 75, 100, 100);
        Check.due("drought(0, 0, 50)", x.drought(0, 0, 50), 2);
        foretold(x, "of the first place too", 50, 100, 75, 75, 100, 100);
        Check.due("drought(1000, 1000, 99)", x.drought(1000, 1000, 99), 3);
        foretold(x, "of the last place too", 50, 100, 75, 75, 100, 1);
        Check.due("drought(0, 1000, 40)", x.drought(0, 1000, 40), 4);
        foretold(x, "of all places", 60, 60, 60, 60, 60, 60);
        int[] before = Check.counts(x);
        int[][] wrong = {{-1, 5}, {LOW, 5}, {1001, 1001}, {HIGH, HIGH}, {0, -1}, {5, 1001}, {5, HIGH}, {5, LOW},
            {5, 4}, {1000, 0}};
        for (int[] w : wrong) {
            Check.refused(x, before, "drought(" + w[0] + ", " + w[1] + ", 1)", x.drought(w[0], w[1], 1), -1);
        }
        foretold(x, "behind refused ones", 60, 60, 60, 60, 60, 60);
    }

    private static void hundredths() {
        Check.sentence("so many hundredths are lost");
        MillFarmers x = at(1, 7);
        x.bears(1000);
        int[][] due = {{0, 1000}, {1, 990}, {99, 10}, {100, 0}, {50, 500}};
        for (int[] d : due) {
            x.drought(7, 7, d[0]);
            foretold(x, "with " + d[0] + " lost", d[1]);
        }
        int[] before = Check.counts(x);
        for (int part : new int[] {-1, 101, LOW, HIGH}) {
            Check.refused(x, before, "drought(7, 7, " + part + ")", x.drought(7, 7, part), -1);
        }
        foretold(x, "behind refused ones", 500);
    }

    private static void lastToldCounts() {
        Check.sentence("the last told of those that have the place counts");
        MillFarmers x = at(1, 10, 20, 30);
        x.bears(100);
        x.drought(0, 20, 90);
        x.drought(20, 40, 20);
        foretold(x, "where two meet", 10, 80, 80);
        x.drought(10, 10, 0);
        foretold(x, "with nothing lost at one", 100, 80, 80);
        x.drought(31, 1000, 100);
        foretold(x, "with one that has none of the places", 100, 80, 80);
        x.drought(0, 9, 100);
        foretold(x, "with another one", 100, 80, 80);
        x.drought(0, 1000, 50);
        foretold(x, "with one that has all", 50, 50, 50);
    }

    private static void sixtyDroughts() {
        Check.sentence("60 at most");
        MillFarmers x = at(1, 0, 1);
        x.bears(100);
        Check.due("drought 1", x.drought(1, 1, 70), 1);
        for (int i = 2; i <= 59; i++) {
            Check.due("drought " + i, x.drought(500, 600, 1), i);
        }
        Check.due("drought 60", x.drought(0, 0, 100), 60);
        int[] full = Check.counts(x);
        Check.due("count(4)", full[4], 60);
        Check.refused(x, full, "a 61st drought", x.drought(0, 1000, 0), -5);
        Check.refused(x, full, "a 62nd drought", x.drought(0, 1000, 0), -5);
        foretold(x, "of a full room", 0, 30);
    }

    private static void foretold() {
        Check.sentence("FORETOLD of a FARMER: FIELDS times YIELD times (100 less DROUGHT) / 100, cut.");
        MillFarmers x = at(3, 0);
        x.bears(33);
        x.drought(0, 0, 99);
        foretold(x, "cut to nothing", 0);
        x.bears(34);
        foretold(x, "cut to one", 1);
        x.drought(0, 0, 1);
        foretold(x, "cut once", 100);
        x.drought(0, 0, 100);
        foretold(x, "all lost", 0);
    }

    private static void greatestForetold() {
        Check.sentence("FORETOLD of a FARMER: FIELDS times YIELD times (100 less DROUGHT) / 100, cut.");
        MillFarmers x = at(50, 0, 1);
        x.bears(10000);
        x.drought(1, 1, 1);
        foretold(x, "of the most", 500000, 495000);
    }

    private static void shortOnes() {
        Check.sentence("SHORT is a FARMER, whose BASKETS together weigh less than FORETOLD times a / b of "
                + "\"due\", cut.");
        MillFarmers x = at(1, 0);
        Check.sign(x, "due 1 of 2", 1);
        Check.due("short of 0 with none", x.of(0, 0, 10), 0);
        x.bears(1);
        Check.due("short of 1 / 2 with none", x.of(0, 0, 10), 0);
        x.bears(2);
        Check.due("short of 1 with none", x.of(0, 0, 10), 1);
        x.bears(21);
        x.basket(0, 9, 0, 0);
        Check.due("short of 21 / 2 with 9", x.of(0, 0, 10), 1);
        x.basket(0, 1, 4, 0);
        Check.due("short of 21 / 2 with 10", x.of(0, 0, 10), 0);
        x.bears(22);
        Check.due("short of 11 with 10", x.of(0, 0, 10), 1);
        x.basket(0, 1, 0, 0);
        Check.due("short of 11 with 11", x.of(0, 0, 10), 0);
        x.basket(0, 1000, 0, 0);
        Check.due("short of 11 with more", x.of(0, 0, 10), 0);
        Check.sign(x, "due 0 of 2", 1);
        x.bears(10000);
        Check.due("short with due 0", x.of(0, 0, 10), 0);
        Check.sign(x, "due 2 of 2", 1);
        Check.due("short with all due", x.of(0, 0, 10), 1);
        x.drought(0, 0, 100);
        Check.due("short with all lost", x.of(0, 0, 10), 0);
    }

    private static void shortByTheDay() {
        Check.sentence("SHORT is a FARMER, whose BASKETS together weigh less than FORETOLD");
        MillFarmers x = at(1, 0, 0);
        Check.sign(x, "due 1 of 1", 1);
        x.bears(10);
        x.basket(0, 10, 0, 8);
        x.basket(1, 9, 0, 0);
        Check.due("short on the day ahead", x.of(0, 7, 10), 1);
        Check.due("short on that day", x.of(0, 8, 10), 0);
        Check.due("the other one is short", x.of(1, 400, 10), 1);
    }

    private static void greatestDue() {
        Check.sentence("less than FORETOLD times a / b of \"due\", cut");
        MillFarmers x = at(50, 0);
        Check.sign(x, "due 5000 of 10000", 1);
        x.bears(10000);
        for (int i = 0; i < 249; i++) {
            x.basket(0, 1000, 0, 0);
        }
        x.basket(0, 999, 0, 0);
        Check.due("short of 250000 with 249999", x.of(0, 0, 10), 1);
        x.basket(0, 1, 0, 0);
        Check.due("short of 250000 with 250000", x.of(0, 0, 10), 0);
    }
}
