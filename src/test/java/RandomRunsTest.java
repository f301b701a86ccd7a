import java.lang.reflect.Method;
import java.lang.reflect.Modifier;
import java.nio.ByteBuffer;
import java.nio.charset.StandardCharsets;
import java.util.Arrays;
import java.util.HashMap;
import java.util.Map;
import java.util.Random;

/** Runs of calls of all sorts, each answer held against a slow reckoning of the whole document. */
public final class RandomRunsTest {
    private static final int RUNS = 400;
    private static final int CALLS = 512;
    // All orders of visits are gone through, which more of them would make too slow.
    private static final int VISITS = 6;
    private static final String[] SHARES = {"over", "debt", "stand", "due"};
    private static final String STRAY = " ;09azof:/`{\u0000\u00ff";
    private static final Map<String, Method> FACE = new HashMap<>();

    private final Random dice;
    private final MillFarmers mill = new MillFarmers();
    private final SlowMill slow = new SlowMill();
    private final String name;
    private final int groups;
    private final int road;
    private int calls;

    private RandomRunsTest(int seed) {
        dice = new Random(seed);
        name = "run " + seed + ": ";
        groups = 1 + dice.nextInt(10);
        road = dice.nextBoolean() ? 20 : 1001;
    }

    public static void main(String[] args) throws ReflectiveOperationException {
        for (Method m : MillFarmers.class.getDeclaredMethods()) {
            if (Modifier.isPublic(m.getModifiers())) {
                FACE.put(m.getName(), m);
            }
        }
        for (int seed = 0; seed < RUNS; seed++) {
            new RandomRunsTest(seed).run();
        }
        Check.finish();
    }

    private void run() throws ReflectiveOperationException {
        for (int i = dice.nextInt(10); i > 0; i--) {
            call("farmer", dice.nextInt(groups), dice.nextInt(road), 1 + dice.nextInt(3));
        }
        while (calls < CALLS) {
            if (dice.nextInt(3) == 0) {
                tell();
            } else {
                ask();
            }
        }
    }

    private void call(String call, int... n) throws ReflectiveOperationException {
        if (calls >= CALLS) {
            return;
        }
        calls++;
        Object got = FACE.get(call).invoke(mill, Arrays.stream(n).boxed().toArray());
        Check.due(name + call + Arrays.toString(n), ((Number) got).longValue(), slow.call(call, n));
    }

    private void tell() throws ReflectiveOperationException {
        switch (dice.nextInt(10)) {
            case 0: call("farmer", group(), place(), mostlySmall(1, 50)); break;
            case 1: case 2: call("credit", farmer(), mostlySmall(1, 100000), day()); break;
            case 3: case 4: call("basket", farmer(), mostlySmall(1, 1000), any(0, 4), day()); break;
            case 5: contract(); break;
            case 6: call("drought", any(0, 1000), dice.nextBoolean() ? 1000 : any(0, 1000), any(0, 100)); break;
            case 7: call("bears", mostlySmall(0, 10000)); break;
            case 8: call("end", any(0, 200)); break;
            default: visit();
        }
    }

    private void visit() throws ReflectiveOperationException {
        if (slow.count(5) < VISITS) {
            call("visit", farmer(), dice.nextInt(3) == 0 ? any(0, 5000) : dice.nextInt(3 * road));
        } else {
            call("clear");
        }
    }

    private void ask() throws ReflectiveOperationException {
        int day = day();
        switch (dice.nextInt(10)) {
            case 0: call("most", place()); break;
            case 1: call("least", place(), any(0, VISITS)); break;
            case 2: call("led", any(0, slow.count(7)), day); break;
            case 3: call("count", any(0, 7)); break;
            case 4: call("status"); break;
            case 5: call("fault"); break;
            case 6: call("group", group(), day, any(0, 3)); break;
            case 7: askAllOf(farmer(), day); break;
            default: call("of", farmer(), day, any(0, 10));
        }
    }

    private void askAllOf(int farmer, int day) throws ReflectiveOperationException {
        for (int what = 0; what <= 10; what++) {
            call("of", farmer, day, what);
        }
    }

    private void contract() throws ReflectiveOperationException {
        String text = text();
        byte[] bytes = Arrays.copyOf(text.getBytes(StandardCharsets.ISO_8859_1), (text.length() + 19) / 20 * 20);
        if (dice.nextInt(10) != 0) {
            call("end", 0);
        }
        for (int at = 0; at < bytes.length; at += 20) {
            ByteBuffer n = ByteBuffer.wrap(bytes, at, 20);
            call("feed", n.getInt(), n.getInt(), n.getInt(), n.getInt(), n.getInt());
        }
        call("end", text.length());
        call("contract");
        call("fault");
        call("status");
    }

    private String text() {
        StringBuilder text = new StringBuilder();
        boolean many = dice.nextInt(12) == 0;
        int clauses = many ? 19 + dice.nextInt(3) : 1 + dice.nextInt(8);
        for (int i = 0; i < clauses; i++) {
            text.append(i == 0 ? "" : ";").append(many ? "due0of1" : clause());
        }
        if (dice.nextInt(6) == 0) {
            int at = dice.nextInt(text.length());
            text.replace(at, at + dice.nextInt(2), "" + STRAY.charAt(dice.nextInt(STRAY.length())));
        }
        text.setLength(Math.min(text.length(), 200));
        return text.toString();
    }

    private String clause() {
        int sort = dice.nextInt(7);
        if (sort < 2) {
            return "price " + any(0, 4) + "  " + mostlySmall(0, 10000);
        }
        if (sort == 2) {
            return " quota 0" + mostlySmall(0, 10000);
        }
        int below = 1 + dice.nextInt(dice.nextInt(5) == 0 ? 10000 : 7);
        int above = dice.nextInt(below + (dice.nextInt(20) == 0 ? 2 : 1));
        return SHARES[sort - 3] + " " + above + " of " + below;
    }

    /** Any number from the lowest to the highest, often one of the two, now and then one beside them. */
    private int any(int lowest, int highest) {
        switch (dice.nextInt(30)) {
            case 0: return lowest - 1;
            case 1: return highest + 1;
            case 2: case 3: case 4: return lowest;
            case 5: case 6: case 7: return highest;
            default: return lowest + dice.nextInt(highest - lowest + 1);
        }
    }

    private int mostlySmall(int lowest, int highest) {
        return dice.nextInt(12) == 0 ? any(lowest, highest) : lowest + dice.nextInt(40);
    }

    private int farmer() {
        return dice.nextInt(3) == 0 ? any(0, slow.count(0)) : dice.nextInt(1 + slow.count(0));
    }

    private int group() {
        return dice.nextInt(3) == 0 ? any(0, 9) : dice.nextInt(groups);
    }

    private int place() {
        return dice.nextInt(3) == 0 ? any(0, 1000) : dice.nextInt(road);
    }

    private int day() {
        return dice.nextInt(3) == 0 ? any(0, 400) : dice.nextInt(5);
    }
}
