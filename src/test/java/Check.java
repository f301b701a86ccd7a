import java.nio.charset.StandardCharsets;

/** What the tests share: comparing answers, and bringing a text onto the tape. */
final class Check {
    private static int wrong = 0;

    private Check() {
    }

    static void due(String call, long got, long want) {
        if (got != want) {
            wrong++;
            System.out.println(call + " answered " + got + ", due is " + want);
        }
    }

    static void that(String what, boolean holds) {
        if (!holds) {
            wrong++;
            System.out.println("does not hold: " + what);
        }
    }

    static void finish() {
        System.out.println(wrong == 0 ? "all answers are as due" : wrong + " answers are not as due");
        if (wrong != 0) {
            System.exit(1);
        }
    }

    /** Puts the text onto an empty tape. */
    static void tape(MillFarmers x, String text) {
        byte[] bytes = text.getBytes(StandardCharsets.ISO_8859_1);
        for (int at = 0; at < bytes.length; at += 20) {
            int[] n = new int[5];
            for (int i = 0; i < 20; i++) {
                int one = at + i < bytes.length ? bytes[at + i] & 255 : 'z';
                n[i / 4] = n[i / 4] << 8 | one;
            }
            x.feed(n[0], n[1], n[2], n[3], n[4]);
        }
        due("end behind \"" + text + "\"", x.end(bytes.length), bytes.length);
    }

    /** Makes the text the contract, which must be accepted with so many clauses. */
    static void sign(MillFarmers x, String text, int clauses) {
        tape(x, text);
        due("contract() of \"" + text + "\"", x.contract(), clauses);
    }
}
