import java.io.IOException;
import java.nio.charset.StandardCharsets;
import java.nio.file.Files;
import java.nio.file.Path;

/** What the tests share: comparing answers, and bringing a text onto the tape. */
final class Check {
    private static final Path DOCUMENT = Path.of("../shared/DOC.md");
    private static final int COUNTS = 8;

    private static int wrong = 0;
    private static String held = "";

    private Check() {
    }

    /** The words of the document that the answers from here on are held against. */
    static void sentence(String words) {
        held = "";
        that("the document says \"" + words + "\"", isInDocument(words));
        held = "\"" + words + "\": ";
    }

    // A quote that the document does not have would test something that nobody promised.
    private static boolean isInDocument(String words) {
        if (!Files.isReadable(DOCUMENT)) {
            return true;
        }
        try {
            return Files.readString(DOCUMENT).contains(words);
        } catch (IOException e) {
            return false;
        }
    }

    static void due(String call, long got, long want) {
        if (got != want) {
            wrong++;
            System.out.println(held + call + " answered " + got + ", due is " + want);
        }
    }

    static void that(String what, boolean holds) {
        if (!holds) {
            wrong++;
            System.out.println(held + "does not hold: " + what);
        }
    }

    static void finish() {
        System.out.println(wrong == 0 ? "all answers are as due" : wrong + " answers are not as due");
        if (wrong != 0) {
            System.exit(1);
        }
    }

    /** A call that must have been refused so, and must have left all counts as they were. */
    static void refused(MillFarmers x, int[] before, String call, int got, int want) {
        due(call, got, want);
        due("status() behind " + call, x.status(), want);
        same(x, before, call);
    }

    static void same(MillFarmers x, int[] before, String call) {
        for (int what = 0; what < COUNTS; what++) {
            due("count(" + what + ") behind " + call, x.count(what), before[what]);
        }
    }

    static int[] counts(MillFarmers x) {
        int[] all = new int[COUNTS];
        for (int what = 0; what < COUNTS; what++) {
            all[what] = x.count(what);
        }
        return all;
    }

    /** Puts the text onto an empty tape. */
    static void tape(MillFarmers x, String text) {
        byte[] bytes = text.getBytes(StandardCharsets.ISO_8859_1);
        for (int at = 0; at < bytes.length; at += 20) {
            int[] n = new int[5];
            for (int i = 0; i < 20; i++) {
                int one = at + i < bytes.length ? bytes[at + i] & 255 : 'z';
                n[i / 4] = n[i / 4] << 8 | one;
            }
            x.feed(n[0], n[1], n[2], n[3], n[4]);
        }
        due("end behind \"" + text + "\"", x.end(bytes.length), bytes.length);
    }

    /** Makes the text the contract, which must be accepted with so many clauses. */
    static void sign(MillFarmers x, String text, int clauses) {
        tape(x, text);
        due("contract() of \"" + text + "\"", x.contract(), clauses);
    }
}
