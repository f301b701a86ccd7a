import java.util.Random;

/** A mill of random farmers, reckoned word by word as the document says it, however slowly. */
final class PlainMill {
    private static final int[] DAYS = {0, 1, 2, 200, 201, 400};

    final int farmers;
    private final int[] group;
    private final int[] fields;
    private final int[][] credits;
    private final int[][] baskets;
    private final int[] prices = new int[5];
    private final int quota;
    private final int[] over;
    private final int[] debtShare;
    private final int[] stand;

    private final long[] weight;
    private final long[] lent;
    private final long[] check;
    private final long[] off;
    private final long[] given;
    private final long[] paid;

    PlainMill(Random dice, int size) {
        farmers = 1 + dice.nextInt(size == 0 ? 3 : 12);
        group = new int[farmers];
        fields = new int[farmers];
        int groups = 1 + dice.nextInt(3);
        for (int i = 0; i < farmers; i++) {
            group[i] = dice.nextInt(groups) * 4;
            fields[i] = 1 + dice.nextInt(dice.nextBoolean() ? 3 : 50);
        }
        credits = new int[dice.nextInt(20)][];
        for (int i = 0; i < credits.length; i++) {
            credits[i] = new int[] {dice.nextInt(farmers), 1 + dice.nextInt(300), day(dice)};
        }
        baskets = new int[dice.nextInt(40)][];
        for (int i = 0; i < baskets.length; i++) {
            baskets[i] = new int[] {dice.nextInt(farmers), 1 + dice.nextInt(60), dice.nextInt(5), day(dice)};
        }
        for (int i = 0; i < 5; i++) {
            prices[i] = dice.nextInt(6);
        }
        quota = dice.nextInt(4) == 0 ? -1 : dice.nextInt(30);
        over = share(dice);
        debtShare = share(dice);
        stand = share(dice);
        weight = new long[farmers];
        lent = new long[farmers];
        check = new long[farmers];
        off = new long[farmers];
        given = new long[farmers];
        paid = new long[farmers];
    }

    private static int day(Random dice) {
        return DAYS[dice.nextInt(DAYS.length)];
    }

    private static int[] share(Random dice) {
        int b = 1 + dice.nextInt(7);
        return new int[] {dice.nextInt(b + 1), b};
    }

    MillFarmers told() {
        MillFarmers x = new MillFarmers();
        for (int i = 0; i < farmers; i++) {
            x.farmer(group[i], 0, fields[i]);
        }
        for (int[] c : credits) {
            x.credit(c[0], c[1], c[2]);
        }
        for (int[] b : baskets) {
            x.basket(b[0], b[1], b[2], b[3]);
        }
        StringBuilder text = new StringBuilder();
        for (int i = 0; i < 5; i++) {
            text.append("price ").append(i).append(' ').append(prices[i]).append(';');
        }
        if (quota >= 0) {
            text.append("quota ").append(quota).append(';');
        }
        text.append("over ").append(over[0]).append(" of ").append(over[1]);
        text.append(";debt ").append(debtShare[0]).append(" of ").append(debtShare[1]);
        text.append(";stand ").append(stand[0]).append(" of ").append(stand[1]);
        Check.sign(x, text.toString(), quota >= 0 ? 9 : 8);
        return x;
    }

    void reckon(int day) {
        for (int f = 0; f < farmers; f++) {
            reckonFarmer(f, day);
        }
        for (int g = 0; g < 10; g++) {
            reckonStanding(g);
        }
    }

    private void reckonFarmer(int f, int day) {
        lent[f] = 0;
        for (int[] c : credits) {
            if (c[0] == f && c[2] <= day) {
                lent[f] += c[1];
            }
        }
        weight[f] = 0;
        long within = 0;
        long beyond = 0;
        for (int[] b : baskets) {
            if (b[0] != f || b[3] > day) {
                continue;
            }
            for (int one = 0; one < b[1]; one++) {
                if (quota < 0 || weight[f] < quota * fields[f]) {
                    within += prices[b[2]];
                } else {
                    beyond += prices[b[2]];
                }
                weight[f]++;
            }
        }
        check[f] = within + beyond * over[0] / over[1];
        off[f] = Math.min(lent[f], check[f] * debtShare[0] / debtShare[1]);
    }

    private long able(int f) {
        return (check[f] - off[f]) * stand[0] / stand[1];
    }

    private long atLevel(int g, long level) {
        long sum = 0;
        for (int f = 0; f < farmers; f++) {
            sum += group[f] == g ? Math.min(level, able(f)) : 0;
        }
        return sum;
    }

    private void reckonStanding(int g) {
        long debts = group(g, 1);
        long level = 0;
        while (level < 100000 && atLevel(g, level + 1) <= debts) {
            level++;
        }
        long missing = debts - atLevel(g, level);
        long pool = 0;
        for (int f = 0; f < farmers; f++) {
            if (group[f] != g) {
                continue;
            }
            given[f] = Math.min(level, able(f));
            if (given[f] < able(f) && missing > 0) {
                given[f]++;
                missing--;
            }
            pool += given[f];
        }
        for (int f = 0; f < farmers; f++) {
            if (group[f] == g) {
                paid[f] = Math.min(pool, lent[f] - off[f]);
                pool -= paid[f];
            }
        }
    }

    long of(int f, int what) {
        long[] all = {weight[f], lent[f], check[f], off[f], check[f] - off[f], lent[f] - off[f], given[f],
            check[f] - off[f] - given[f], lent[f] - off[f] - paid[f]};
        return all[what];
    }

    long group(int g, int what) {
        long[] all = new long[4];
        for (int f = 0; f < farmers; f++) {
            if (group[f] == g) {
                all[0]++;
                all[1] += lent[f] - off[f];
                all[2] += given[f];
                all[3] += lent[f] - off[f] - paid[f];
            }
        }
        return all[what];
    }
}
