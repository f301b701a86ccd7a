import java.util.Arrays;
import java.util.Random;

/** Promises 13 to 16: visit, clear, most, least, by hand and against all orders of visits. */
public final class RoadTest {
    private static final int NEVER = Integer.MAX_VALUE;

    public static void main(String[] args) {
        visits();
        wrongNumbers();
        apartOrTogether();
        givesUpTheFirst();
        both();
        lastHours();
        for (int seed = 0; seed < 1500; seed++) {
            againstAllOrders(new Random(seed), 1 + seed % 9, "seed " + seed);
        }
        for (int seed = 0; seed < 12; seed++) {
            againstAllOrders(new Random(seed), 16, "sixteen, seed " + seed);
        }
        Check.finish();
    }

    private static MillFarmers at(int... places) {
        MillFarmers x = new MillFarmers();
        for (int place : places) {
            x.farmer(0, place, 1);
        }
        return x;
    }

    private static void visits() {
        MillFarmers x = at(5, 9);
        for (int i = 1; i <= 16; i++) {
            Check.due("visit " + i, x.visit(i % 2, i % 3 == 0 ? 5000 : 0), i);
        }
        Check.due("a 17th visit", x.visit(0, 0), -5);
        Check.due("its status", x.status(), -5);
        Check.due("a 17th visit of nobody", x.visit(2, 0), -2);
        Check.due("a 17th visit in no hour", x.visit(2, 5001), -1);
        Check.due("count(5)", x.count(5), 16);
        Check.due("clear()", x.clear(), 16);
        Check.due("count(5) of none", x.count(5), 0);
        Check.due("clear() of none", x.clear(), 0);
        Check.due("most(5) of none", x.most(5), 0);
        Check.due("least(5, 1) of none", x.least(5, 1), -1);
        Check.due("visit behind clear", x.visit(1, 4), 1);
        Check.due("most(5)", x.most(5), 1);
        Check.due("status", x.status(), 0);
    }

    private static void wrongNumbers() {
        MillFarmers x = at(5);
        int low = Integer.MIN_VALUE;
        int high = Integer.MAX_VALUE;
        for (int hour : new int[] {-1, 5001, low, high}) {
            Check.due("visit(0, " + hour + ")", x.visit(0, hour), -1);
            Check.due("visit(9, " + hour + ")", x.visit(9, hour), -1);
            Check.due("its status", x.status(), -1);
        }
        for (int f : new int[] {-1, 1, 39, 40, low, high}) {
            Check.due("visit(" + f + ", 0)", x.visit(f, 0), -2);
            Check.due("its status", x.status(), -2);
        }
        Check.due("count(5)", x.count(5), 0);
        Check.due("visit(0, 5000)", x.visit(0, 5000), 1);
        for (int place : new int[] {-1, 1001, low, high}) {
            Check.due("most(" + place + ")", x.most(place), -1);
            Check.due("least(" + place + ", 0)", x.least(place, 0), -1);
            Check.due("least(" + place + ", 1)", x.least(place, 1), -1);
        }
        for (int n : new int[] {-1, 2, 16, 17, low, high}) {
            Check.due("least(0, " + n + ")", x.least(0, n), -1);
        }
        Check.due("least(0, 0)", x.least(0, 0), 0);
        Check.due("least(0, 1)", x.least(0, 1), 5);
        Check.due("least(1000, 1)", x.least(1000, 1), 995);
        Check.due("most(1000)", x.most(1000), 1);
    }

    private static void apartOrTogether() {
        MillFarmers x = at(10, 20);
        x.visit(0, 3);
        x.visit(0, 30);
        x.visit(0, 100);
        x.visit(1, 4);
        Check.due("most(10)", x.most(10), 3);
        Check.due("least(10, 3)", x.least(10, 3), 0);
        Check.due("most(17)", x.most(17), 3);
        Check.due("least(17, 1)", x.least(17, 1), 3);
        Check.due("least(17, 2)", x.least(17, 2), 7);
        Check.due("least(17, 3)", x.least(17, 3), 13);
        Check.due("least(17, 4)", x.least(17, 4), -1);
    }

    private static void givesUpTheFirst() {
        MillFarmers x = at(0, 20, 21, 22);
        x.visit(0, 10);
        x.visit(1, 12);
        x.visit(2, 12);
        x.visit(3, 12);
        Check.due("most(10)", x.most(10), 3);
        Check.due("least(10, 1)", x.least(10, 1), 10);
        Check.due("least(10, 2)", x.least(10, 2), 11);
        Check.due("least(10, 3)", x.least(10, 3), 12);
    }

    private static void both() {
        MillFarmers x = at(90, 110, 80, 120);
        x.visit(0, 10);
        x.visit(1, 30);
        x.visit(2, 60);
        x.visit(3, 100);
        Check.due("most(100)", x.most(100), 4);
        Check.due("least(100, 4)", x.least(100, 4), 100);
        Check.due("least(100, 3)", x.least(100, 3), 40);
        Check.due("least(100, 2)", x.least(100, 2), 20);
    }

    private static void lastHours() {
        MillFarmers x = at(0, 1000);
        x.visit(0, 1500);
        x.visit(1, 1500);
        Check.due("most(500)", x.most(500), 2);
        Check.due("least(500, 2)", x.least(500, 2), 1500);
        x.clear();
        x.visit(0, 1499);
        x.visit(1, 1499);
        Check.due("an hour less: most(500)", x.most(500), 1);
        Check.due("an hour less: least(500, 2)", x.least(500, 2), -1);
        Check.due("an hour less: most(501)", x.most(501), 2);
    }

    private static void againstAllOrders(Random dice, int n, String name) {
        int width = 1 + dice.nextInt(dice.nextBoolean() ? 12 : 1001);
        int latest = 1 + dice.nextInt(5 * width);
        int[] place = new int[n];
        int[] hour = new int[n];
        for (int i = 0; i < n; i++) {
            place[i] = dice.nextInt(width);
            hour[i] = Math.min(5000, dice.nextInt(latest));
        }
        MillFarmers x = at(place);
        for (int i = 0; i < n; i++) {
            x.visit(i, hour[i]);
        }
        for (int start : new int[] {0, dice.nextInt(width), 1000, place[0]}) {
            int[] due = leastHours(place, hour, start);
            int most = 0;
            for (int k = 0; k <= n; k++) {
                most = due[k] == NEVER ? most : k;
                Check.due(name + ": least(" + start + ", " + k + ")", x.least(start, k),
                        due[k] == NEVER ? -1 : due[k]);
            }
            Check.due(name + ": most(" + start + ")", x.most(start), most);
        }
    }

    /** For each number of visits the least hour, over all sets that can be met and all orders. */
    private static int[] leastHours(int[] place, int[] hour, int start) {
        int n = place.length;
        int[] least = new int[n + 1];
        Arrays.fill(least, NEVER);
        least[0] = 0;
        int[][] best = new int[1 << n][n];
        for (int[] row : best) {
            Arrays.fill(row, NEVER);
        }
        for (int i = 0; i < n; i++) {
            int then = Math.abs(start - place[i]);
            best[1 << i][i] = then <= hour[i] ? then : NEVER;
        }
        for (int set = 1; set < 1 << n; set++) {
            for (int last = 0; last < n; last++) {
                int now = best[set][last];
                if (now == NEVER) {
                    continue;
                }
                int many = Integer.bitCount(set);
                least[many] = Math.min(least[many], now);
                for (int i = 0; i < n; i++) {
                    int then = now + Math.abs(place[last] - place[i]);
                    if ((set >> i & 1) == 0 && then <= hour[i]) {
                        int more = set | 1 << i;
                        best[more][i] = Math.min(best[more][i], then);
                    }
                }
            }
        }
        return least;
    }
}
