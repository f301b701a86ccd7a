import java.nio.ByteBuffer;
import java.nio.charset.StandardCharsets;
import java.util.ArrayList;
import java.util.Arrays;
import java.util.List;
import java.util.regex.Matcher;
import java.util.regex.Pattern;

/** The whole document once more, unit by unit and as slow as that is, to hold runs of calls against. */
final class SlowMill {
    private static final Pattern TOKEN = Pattern.compile("[a-z]+|[0-9]+|[^ ]", Pattern.DOTALL);
    private static final List<String> SHARES = List.of("over", "debt", "stand", "due");
    private static final long NO_QUOTA = 1000000;

    private final List<int[]> farmers = new ArrayList<>();
    private final List<int[]> credits = new ArrayList<>();
    private final List<int[]> baskets = new ArrayList<>();
    private final List<int[]> droughts = new ArrayList<>();
    private final List<int[]> visits = new ArrayList<>();
    private List<String[]> contract = new ArrayList<>();
    private String tape = "";
    private int yield;
    private int fault = -1;
    private int status;

    /** What the call of that name answers. */
    long call(String name, int... n) {
        switch (name) {
            case "feed": return feed(n);
            case "end": return end(n[0]);
            case "contract": return sign();
            case "fault": return fault;
            case "of": return of(n[0], n[1], n[2]);
            case "group": return group(n[0], n[1], n[2]);
            case "bears": return bears(n[0]);
            case "clear": return clear();
            case "most": return most(n[0]);
            case "least": return least(n[0], n[1]);
            case "led": return led(n[0], n[1]);
            case "count": return count(n[0]);
            case "status": return status;
            default: return add(name, n);
        }
    }

    private static boolean in(int x, int low, int high) {
        return low <= x && x <= high;
    }

    private boolean is(int f) {
        return in(f, 0, farmers.size() - 1);
    }

    private int add(String name, int[] n) {
        switch (name) {
            case "farmer":
                int many = add(in(n[0], 0, 9) && in(n[1], 0, 1000) && in(n[2], 1, 50), true, farmers, 40, n);
                return many < 0 ? many : many - 1;
            case "credit":
                return add(in(n[1], 1, 100000) && in(n[2], 0, 400), is(n[0]), credits, 200, n);
            case "basket":
                return add(in(n[1], 1, 1000) && in(n[2], 0, 4) && in(n[3], 0, 400), is(n[0]), baskets, 300, n);
            case "drought":
                return add(in(n[0], 0, 1000) && in(n[1], n[0], 1000) && in(n[2], 0, 100), true, droughts, 60, n);
            case "visit":
                return add(in(n[1], 0, 5000), is(n[0]), visits, 16, n);
            default:
                throw new IllegalArgumentException(name);
        }
    }

    private int add(boolean numbers, boolean farmer, List<int[]> room, int most, int[] n) {
        status = !numbers ? -1 : !farmer ? -2 : room.size() == most ? -5 : 0;
        if (status != 0) {
            return status;
        }
        room.add(n);
        return room.size();
    }

    private int bears(int each) {
        status = in(each, 0, 10000) ? 0 : -1;
        if (status != 0) {
            return status;
        }
        int was = yield;
        yield = each;
        return was;
    }

    private int clear() {
        int were = visits.size();
        visits.clear();
        return were;
    }

    private int feed(int[] n) {
        if (tape.length() + 20 > 200) {
            return -1;
        }
        ByteBuffer twenty = ByteBuffer.allocate(20);
        for (int four : n) {
            twenty.putInt(four);
        }
        tape += new String(twenty.array(), StandardCharsets.ISO_8859_1);
        return tape.length();
    }

    private int end(int n) {
        if (!in(n, 0, tape.length())) {
            return -1;
        }
        tape = tape.substring(0, n);
        return n;
    }

    private int sign() {
        List<String> tokens = new ArrayList<>();
        List<Integer> starts = new ArrayList<>();
        Matcher m = TOKEN.matcher(tape);
        while (m.find()) {
            tokens.add(m.group());
            starts.add(m.start());
        }
        tokens.add("");
        starts.add(tape.length());
        tape = "";
        List<String[]> clauses = new ArrayList<>();
        int wrong = tokens.size() == 1 ? -1 : firstWrong(tokens, clauses);
        fault = wrong < 0 ? -1 : starts.get(wrong);
        status = wrong < 0 ? 0 : -6;
        if (wrong >= 0) {
            return status;
        }
        contract = clauses;
        return clauses.size();
    }

    private static int firstWrong(List<String> tokens, List<String[]> clauses) {
        int at = 0;
        while (clauses.size() < 20) {
            String forms = formsBehind(tokens.get(at));
            if (forms == null) {
                return at;
            }
            String[] clause = new String[forms.length() + 1];
            clause[0] = tokens.get(at);
            for (int i = 1; i < clause.length; i++) {
                at++;
                clause[i] = tokens.get(at);
                if (!fits(clause, i, forms.charAt(i - 1))) {
                    return at;
                }
            }
            clauses.add(clause);
            at++;
            if (!tokens.get(at).equals(";")) {
                return tokens.get(at).isEmpty() ? -1 : at;
            }
            at++;
        }
        return at;
    }

    // g a grade, n a number, o the word "of", m the number behind it
    private static String formsBehind(String word) {
        if (word.equals("price")) {
            return "gn";
        }
        if (word.equals("quota")) {
            return "n";
        }
        return SHARES.contains(word) ? "nom" : null;
    }

    private static boolean fits(String[] clause, int i, char form) {
        if (form == 'o') {
            return clause[i].equals("of");
        }
        if (!clause[i].matches("0*[0-9]{1,5}")) {
            return false;
        }
        int value = Integer.parseInt(clause[i]);
        if (form == 'm' && (value < 1 || value < Integer.parseInt(clause[1]))) {
            return false;
        }
        return value <= (form == 'g' ? 4 : 10000);
    }

    private int price(int grade) {
        int price = 0;
        for (String[] c : contract) {
            if (c[0].equals("price") && Integer.parseInt(c[1]) == grade) {
                price = Integer.parseInt(c[2]);
            }
        }
        return price;
    }

    private long quota() {
        long quota = NO_QUOTA;
        for (String[] c : contract) {
            quota = c[0].equals("quota") ? Integer.parseInt(c[1]) : quota;
        }
        return quota;
    }

    private long share(String sort, long amount, long without) {
        long share = amount * without;
        for (String[] c : contract) {
            if (c[0].equals(sort)) {
                share = amount * Integer.parseInt(c[1]) / Integer.parseInt(c[3]);
            }
        }
        return share;
    }

    private long weight(int f, int day) {
        return baskets.stream().filter(b -> b[0] == f && b[3] <= day).mapToLong(b -> b[1]).sum();
    }

    private long lent(int f, int day) {
        return credits.stream().filter(c -> c[0] == f && c[2] <= day).mapToLong(c -> c[1]).sum();
    }

    private long check(int f, int day) {
        long room = quota() * farmers.get(f)[2];
        long within = 0;
        long beyond = 0;
        for (int[] b : baskets) {
            if (b[0] != f || b[3] > day) {
                continue;
            }
            for (int one = 0; one < b[1]; one++) {
                within += room > 0 ? price(b[2]) : 0;
                beyond += room > 0 ? 0 : price(b[2]);
                room--;
            }
        }
        return within + share("over", beyond, 1);
    }

    private long off(int f, int day) {
        return Math.min(lent(f, day), share("debt", check(f, day), 1));
    }

    private long pay(int f, int day) {
        return check(f, day) - off(f, day);
    }

    private long debt(int f, int day) {
        return lent(f, day) - off(f, day);
    }

    /** GIVEN of each, one by one and round by round; then what is left of each one's DEBT. */
    private long[][] standing(int g, int day) {
        long[] given = new long[farmers.size()];
        long[] can = new long[farmers.size()];
        long[] left = new long[farmers.size()];
        for (int f = 0; f < given.length; f++) {
            if (farmers.get(f)[0] == g) {
                can[f] = share("stand", pay(f, day), 0);
                left[f] = debt(f, day);
            }
        }
        long open = Arrays.stream(left).sum();
        boolean more = true;
        while (more) {
            more = false;
            for (int f = 0; f < given.length; f++) {
                if (open > 0 && given[f] < can[f]) {
                    given[f]++;
                    open--;
                    more = true;
                }
            }
        }
        long pool = Arrays.stream(given).sum();
        for (int f = 0; f < given.length; f++) {
            long paid = Math.min(pool, left[f]);
            left[f] -= paid;
            pool -= paid;
        }
        return new long[][] {given, left};
    }

    private long foretold(int f) {
        int lost = 0;
        for (int[] d : droughts) {
            lost = in(farmers.get(f)[1], d[0], d[1]) ? d[2] : lost;
        }
        return (long) farmers.get(f)[2] * yield * (100 - lost) / 100;
    }

    private long of(int f, int day, int what) {
        if (!is(f) || !in(day, 0, 400)) {
            return -1;
        }
        int g = farmers.get(f)[0];
        switch (what) {
            case 0: return weight(f, day);
            case 1: return lent(f, day);
            case 2: return check(f, day);
            case 3: return off(f, day);
            case 4: return pay(f, day);
            case 5: return debt(f, day);
            case 6: return standing(g, day)[0][f];
            case 7: return pay(f, day) - standing(g, day)[0][f];
            case 8: return standing(g, day)[1][f];
            case 9: return foretold(f);
            case 10: return weight(f, day) < share("due", foretold(f), 0) ? 1 : 0;
            default: return -1;
        }
    }

    private long group(int g, int day, int what) {
        if (!in(g, 0, 9) || !in(day, 0, 400) || !in(what, 0, 3)) {
            return -1;
        }
        long[] sums = new long[4];
        long[][] standing = standing(g, day);
        for (int f = 0; f < farmers.size(); f++) {
            if (farmers.get(f)[0] == g) {
                sums[0]++;
                sums[1] += debt(f, day);
                sums[2] += standing[0][f];
                sums[3] += standing[1][f];
            }
        }
        return sums[what];
    }

    private int most(int place) {
        if (!in(place, 0, 1000)) {
            return -1;
        }
        int[] least = leastHours(place);
        int most = 0;
        for (int met = 0; met < least.length; met++) {
            most = least[met] < 0 ? most : met;
        }
        return most;
    }

    private int least(int place, int n) {
        return in(place, 0, 1000) && in(n, 0, visits.size()) ? leastHours(place)[n] : -1;
    }

    private int[] leastHours(int place) {
        int[] least = new int[visits.size() + 1];
        Arrays.fill(least, -1);
        goOn(place, 0, 0, least);
        return least;
    }

    private void goOn(int place, int hour, int met, int[] least) {
        int many = Integer.bitCount(met);
        if (least[many] < 0 || hour < least[many]) {
            least[many] = hour;
        }
        for (int i = 0; i < visits.size(); i++) {
            int to = farmers.get(visits.get(i)[0])[1];
            int then = hour + Math.abs(to - place);
            if ((met >> i & 1) == 0 && then <= visits.get(i)[1]) {
                goOn(to, then, met | 1 << i, least);
            }
        }
    }

    private int led(int n, int day) {
        if (n < 0 || !in(day, 0, 400)) {
            return -1;
        }
        List<Integer> owners = new ArrayList<>();
        for (int[] b : baskets) {
            for (int one = 0; one < b[1] && b[3] <= day; one++) {
                owners.add(b[0]);
            }
        }
        return n < owners.size() ? owners.get(n) : -1;
    }

    int count(int what) {
        switch (what) {
            case 0: return farmers.size();
            case 1: return credits.size();
            case 2: return baskets.size();
            case 3: return contract.size();
            case 4: return droughts.size();
            case 5: return visits.size();
            case 6: return tape.length();
            case 7: return baskets.stream().mapToInt(b -> b[1]).sum();
            default: return -1;
        }
    }
}
