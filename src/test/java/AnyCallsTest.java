import java.util.Random;

/** No call throws or fails to end, whatever its numbers and the calls ahead of it; answers repeat. */
public final class AnyCallsTest {
    private static final int[] EDGES = {Integer.MIN_VALUE, -1, 0, 1, 2, 3, 4, 5, 9, 10, 11, 16, 39, 40, 50,
        100, 200, 400, 401, 1000, 1001, 5000, 10000, 100000, 100001, Integer.MAX_VALUE};
    private static final String[] PIECES = {"price ", "quota ", "over ", "debt ", "stand ", "due ", " of ",
        ";", "0", "1", "4", "10000", "9", " ", "x", "\u0000", "\u00ff"};

    public static void main(String[] args) {
        for (int seed = 0; seed < 600; seed++) {
            long first = run(seed);
            Check.due("seed " + seed + " told again", run(seed), first);
        }
        Check.finish();
    }

    private static long run(int seed) {
        Random dice = new Random(seed);
        MillFarmers x = new MillFarmers();
        boolean mostlyGood = seed % 2 == 0;
        long sum = 0;
        for (int calls = 0; calls < 512; calls++) {
            int[] n = new int[5];
            for (int i = 0; i < 5; i++) {
                n[i] = mostlyGood ? dice.nextInt(6) : EDGES[dice.nextInt(EDGES.length)];
            }
            if (dice.nextInt(12) == 0) {
                feedPiece(x, dice);
                continue;
            }
            sum = sum * 31 + answer(x, dice.nextInt(20), n);
        }
        return sum;
    }

    private static void feedPiece(MillFarmers x, Random dice) {
        StringBuilder text = new StringBuilder();
        while (text.length() < 20) {
            text.append(PIECES[dice.nextInt(PIECES.length)]);
        }
        int[] n = new int[5];
        for (int i = 0; i < 20; i++) {
            n[i / 4] = n[i / 4] << 8 | text.charAt(i);
        }
        x.feed(n[0], n[1], n[2], n[3], n[4]);
    }

    private static long answer(MillFarmers x, int which, int[] n) {
        switch (which) {
            case 0: return x.farmer(n[0], n[1], n[2]);
            case 1: return x.credit(n[0], n[1], n[2]);
            case 2: return x.basket(n[0], n[1], n[2], n[3]);
            case 3: return x.feed(n[0], n[1], n[2], n[3], n[4]);
            case 4: return x.end(n[0]);
            case 5: return x.contract();
            case 6: return x.fault();
            case 7: return x.of(n[0], n[1], n[2]);
            case 8: return x.group(n[0], n[1], n[2]);
            case 9: return x.bears(n[0]);
            case 10: return x.drought(n[0], n[1], n[2]);
            case 11: return x.visit(n[0], n[1]);
            case 12: return n[1] == 0 ? x.clear() : x.visit(n[0], n[1]);
            case 13: return x.most(n[0]);
            case 14: return x.least(n[0], n[1]);
            case 15: return x.led(n[0], n[1]);
            case 16: return x.count(n[0]);
            case 17: return x.status();
            case 18: return x.of(n[0], 400, n[2]);
            default: return x.basket(n[0], 1 + n[1] % 100, n[2], n[3]);
        }
    }
}
