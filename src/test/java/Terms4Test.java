/** Terms IV at its edges: the field man's way and the visits. */
public final class Terms4Test {
    private static final int LOW = Integer.MIN_VALUE;
    private static final int HIGH = Integer.MAX_VALUE;

    public static void main(String[] args) {
        beginsInHourZero();
        eitherWay();
        sixteenVisits();
        sixteenToOneSide();
        sixteenToBothSides();
        notBehindTheHour();
        hours();
        latestHour();
        takesNoTime();
        severalOfOneFarmer();
        anyOrder();
        leastOfSoMany();
        moreThanCanBeMet();
        Check.finish();
    }

    private static MillFarmers at(int... places) {
        MillFarmers x = new MillFarmers();
        for (int place : places) {
            x.farmer(0, place, 1);
        }
        return x;
    }

    private static void visits(MillFarmers x, int... hours) {
        for (int i = 0; i < hours.length; i++) {
            Check.due("visit(" + i + ", " + hours[i] + ")", x.visit(i, hours[i]), i + 1);
        }
    }

    private static void least(MillFarmers x, int place, int... due) {
        for (int n = 0; n < due.length; n++) {
            Check.due("least(" + place + ", " + n + ")", x.least(place, n), due[n]);
        }
    }

    private static void beginsInHourZero() {
        Check.sentence("The field man begins at a place in HOUR 0");
        MillFarmers x = at(0, 500, 1000);
        visits(x, 0, 0, 0);
        for (int place : new int[] {0, 500, 1000}) {
            Check.due("most(" + place + ")", x.most(place), 1);
            least(x, place, 0, 0, -1, -1);
        }
        for (int place : new int[] {1, 499, 501, 999}) {
            Check.due("most(" + place + ")", x.most(place), 0);
            least(x, place, 0, -1);
        }
        for (int place : new int[] {-1, 1001, LOW, HIGH}) {
            Check.due("most(" + place + ")", x.most(place), -1);
            for (int n = -1; n <= 3; n++) {
                Check.due("least(" + place + ", " + n + ")", x.least(place, n), -1);
            }
        }
    }

    private static void eitherWay() {
        Check.sentence("goes a place an HOUR, either way");
        MillFarmers x = at(490, 510);
        visits(x, 30, 30);
        least(x, 500, 0, 10, 30);
        least(x, 490, 0, 0, 20);
        least(x, 510, 0, 0, 20);
        least(x, 0, 0, -1, -1);
        least(x, 460, 0, 30, -1);
        least(x, 540, 0, 30, -1);
        Check.due("most(480)", x.most(480), 2);
        Check.due("most(479)", x.most(479), 1);
        Check.due("most(521)", x.most(521), 1);
        Check.due("most(541)", x.most(541), 0);
    }

    private static void sixteenVisits() {
        Check.sentence("VISITS, 16 at most");
        MillFarmers x = at(3, 4);
        for (int i = 1; i <= 15; i++) {
            Check.due("visit " + i, x.visit(0, 5000), i);
        }
        Check.due("visit 16", x.visit(1, 5000), 16);
        int[] full = Check.counts(x);
        Check.due("count(5)", full[5], 16);
        Check.refused(x, full, "a 17th visit", x.visit(0, 0), -5);
        Check.refused(x, full, "an 18th visit", x.visit(1, 5000), -5);
        Check.due("most(0) of a full room", x.most(0), 16);
        Check.due("least(0, 15) of a full room", x.least(0, 15), 3);
        Check.due("least(0, 16) of a full room", x.least(0, 16), 4);
        Check.due("least(0, 17) of a full room", x.least(0, 17), -1);
    }

    private static void sixteenToOneSide() {
        Check.sentence("MOST of them that can be met in time");
        MillFarmers x = new MillFarmers();
        for (int i = 0; i < 16; i++) {
            x.farmer(0, 492 + i, 1);
            x.visit(i, 5000);
        }
        Check.due("most(0), all to the right", x.most(0), 16);
        Check.due("least(0, 16)", x.least(0, 16), 507);
        Check.due("most(1000), all to the left", x.most(1000), 16);
        Check.due("least(1000, 16)", x.least(1000, 16), 508);
        Check.due("most(500), to both sides", x.most(500), 16);
        Check.due("least(500, 16)", x.least(500, 16), 22);
    }

    private static void sixteenToBothSides() {
        Check.sentence("MOST of them that can be met in time, in any order.");
        for (int late = 0; late <= 1; late++) {
            MillFarmers x = new MillFarmers();
            int hour = 0;
            for (int i = 1; i <= 16; i++) {
                hour += i;
                x.farmer(0, i % 2 == 1 ? 500 + (i + 1) / 2 : 500 - i / 2, 1);
                x.visit(i - 1, i == 16 ? hour - late : hour);
            }
            Check.due("most(500), " + late + " too late", x.most(500), 16 - late);
            Check.due("least(500, 16), " + late + " too late", x.least(500, 16), late == 0 ? 136 : -1);
        }
    }

    private static void notBehindTheHour() {
        Check.sentence("to be met in an HOUR not behind one that is told");
        MillFarmers x = at(10);
        for (int hour = 0; hour <= 12; hour++) {
            x.visit(0, hour);
            Check.due("most(0) by hour " + hour, x.most(0), hour < 10 ? 0 : 1);
            Check.due("least(0, 1) by hour " + hour, x.least(0, 1), hour < 10 ? -1 : 10);
            Check.due("most(20) by hour " + hour, x.most(20), hour < 10 ? 0 : 1);
            x.clear();
        }
    }

    private static void hours() {
        Check.sentence("(0 .. 5000)");
        MillFarmers x = at(0);
        Check.due("visit(0, 0)", x.visit(0, 0), 1);
        Check.due("visit(0, 5000)", x.visit(0, 5000), 2);
        int[] before = Check.counts(x);
        for (int hour : new int[] {-1, 5001, LOW, HIGH}) {
            Check.refused(x, before, "visit(0, " + hour + ")", x.visit(0, hour), -1);
        }
        Check.due("most(0)", x.most(0), 2);
        Check.due("most(1)", x.most(1), 1);
    }

    /** A way that has to turn at each visit, and meets the last one in the very last hour. */
    private static void latestHour() {
        Check.sentence("(0 .. 5000)");
        int[] hour = {133, 398, 1026, 2018, 3011, 4005, 5000};
        MillFarmers x = at(633, 368, 996, 4, 997, 3, 998);
        visits(x, hour);
        Check.due("most(500)", x.most(500), 7);
        Check.due("least(500, 7)", x.least(500, 7), 5000);
        for (int tight = 0; tight < 7; tight++) {
            x.clear();
            for (int i = 0; i < 7; i++) {
                x.visit(i, i == tight ? hour[i] - 1 : hour[i]);
            }
            Check.due("most(500), " + tight + " an hour too late", x.most(500), 6);
            Check.due("least(500, 7), " + tight + " an hour too late", x.least(500, 7), -1);
        }
    }

    private static void takesNoTime() {
        Check.sentence("a visit takes no time");
        MillFarmers x = at(1, 2, 3, 4, 5);
        visits(x, 1, 2, 3, 4, 5);
        least(x, 0, 0, 1, 2, 3, 4, 5);
        Check.due("most(0)", x.most(0), 5);
    }

    private static void severalOfOneFarmer() {
        Check.sentence("one FARMER may have several, which are met apart or together");
        MillFarmers x = at(10, 30);
        x.visit(0, 10);
        x.visit(0, 10);
        x.visit(0, 70);
        x.visit(0, 9);
        x.visit(1, 30);
        least(x, 0, 0, 10, 10, 10, 30, -1);
        Check.due("most(0)", x.most(0), 4);
        Check.due("most(1)", x.most(1), 5);
        least(x, 20, 0, 10, 10, 10, 30, -1);
        least(x, 21, 0, 9, 29, -1);
        MillFarmers y = at(10, 10);
        visits(y, 5, 5);
        least(y, 5, 0, 5, 5, -1);
    }

    private static void anyOrder() {
        Check.sentence("MOST of them that can be met in time, in any order.");
        MillFarmers x = at(0, 100, 101, 102);
        visits(x, 50, 52, 52, 52);
        Check.due("three far ones for a near one", x.most(50), 3);
        x.clear();
        visits(x, 5000, 52, 52, 52);
        Check.due("the last told ones first", x.most(50), 4);
        Check.due("least(50, 4)", x.least(50, 4), 154);
        x.clear();
        x.visit(3, 52);
        x.visit(2, 52);
        x.visit(0, 154);
        x.visit(1, 52);
        Check.due("told in another order", x.most(50), 4);
        x.clear();
        visits(x, 153, 52, 52, 52);
        Check.due("an hour too late", x.most(50), 3);
    }

    private static void leastOfSoMany() {
        Check.sentence("The least HOUR by which so many can be met.");
        MillFarmers x = at(90, 105, 120);
        visits(x, 5000, 5000, 5000);
        least(x, 100, 0, 5, 20, 40, -1);
        least(x, 105, 0, 0, 15, 45, -1);
        least(x, 90, 0, 0, 15, 30, -1);
        x.clear();
        visits(x, 10, 25, 40);
        least(x, 100, 0, 5, 20, 40, -1);
    }

    private static void moreThanCanBeMet() {
        Check.sentence("The least HOUR by which so many can be met.");
        MillFarmers x = at(0, 1000);
        least(x, 500, 0, -1, -1);
        visits(x, 500, 500);
        least(x, 500, 0, 500, -1, -1);
        for (int n : new int[] {-1, 3, 16, 17, LOW, HIGH}) {
            Check.due("least(500, " + n + ")", x.least(500, n), -1);
        }
    }
}
