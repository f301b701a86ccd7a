import java.util.Arrays;

/**
 * A mill whose crop is grown by small farmers: credits, baskets, the contract that prices them,
 * groups that stand for one another, foretold yields, the field man's visits and the led baskets.
 */
public final class MillFarmers {
    public static final int NONE = -1;

    private static final int WRONG_NUMBER = -1;
    private static final int NO_FARMER = -2;
    private static final int NO_ROOM = -5;
    private static final int WRONG_TEXT = -6;

    private static final int LAST_DAY = 400;
    private static final int LAST_GROUP = 9;
    private static final int LAST_PLACE = 1000;
    private static final int LAST_GRADE = 4;
    private static final int LAST_HOUR = 5000;
    private static final int MOST_FIELDS = 50;
    private static final int MOST_CREDIT = 100000;
    private static final int MOST_WEIGHT = 1000;
    private static final int MOST_YIELD = 10000;
    private static final int WHOLE = 100;

    private static final int MOST_FARMERS = 40;
    private static final int MOST_CREDITS = 200;
    private static final int MOST_BASKETS = 300;
    private static final int MOST_DROUGHTS = 60;
    private static final int MOST_VISITS = 16;
    private static final int MOST_BYTES = 200;
    private static final int MOST_CLAUSES = 20;

    private static final int LAST_OF_FARMER = 10;
    private static final int LAST_OF_GROUP = 3;

    private final Farmers farmers;
    private final Credits credits;
    private final Baskets baskets;
    private final Tape tape;
    private final ContractReader reader;
    private final Books books;
    private final Land land;
    private final Road road;
    private Terms terms;
    private Terms draft;
    private int faultPlace;
    private int refusal;

    public MillFarmers() {
        farmers = new Farmers();
        credits = new Credits();
        baskets = new Baskets();
        tape = new Tape();
        books = new Books();
        land = new Land();
        road = new Road();
        terms = new Terms();
        draft = new Terms();
        reader = new ContractReader(tape, draft);
        faultPlace = NONE;
        refusal = 0;
    }

    public int farmer(int group, int place, int fields) {
        if (outside(group, 0, LAST_GROUP) || outside(place, 0, LAST_PLACE)
                || outside(fields, 1, MOST_FIELDS)) {
            return refuse(WRONG_NUMBER);
        }
        if (farmers.size >= MOST_FARMERS) {
            return refuse(NO_ROOM);
        }
        farmers.add(group, place, fields);
        return accept(farmers.size - 1);
    }

    public int credit(int farmer, int amount, int known) {
        if (outside(amount, 1, MOST_CREDIT) || outside(known, 0, LAST_DAY)) {
            return refuse(WRONG_NUMBER);
        }
        if (isNoFarmer(farmer)) {
            return refuse(NO_FARMER);
        }
        if (credits.size >= MOST_CREDITS) {
            return refuse(NO_ROOM);
        }
        credits.add(farmer, amount, known);
        return accept(credits.size);
    }

    public int basket(int farmer, int weight, int grade, int known) {
        if (outside(weight, 1, MOST_WEIGHT) || outside(grade, 0, LAST_GRADE)
                || outside(known, 0, LAST_DAY)) {
            return refuse(WRONG_NUMBER);
        }
        if (isNoFarmer(farmer)) {
            return refuse(NO_FARMER);
        }
        if (baskets.size >= MOST_BASKETS) {
            return refuse(NO_ROOM);
        }
        baskets.add(farmer, weight, grade, known);
        return accept(baskets.size);
    }

    public int feed(int a, int b, int c, int d, int e) {
        if (tape.length > MOST_BYTES - Tape.BYTES_OF_A_FEED) {
            return NONE;
        }
        tape.append(a);
        tape.append(b);
        tape.append(c);
        tape.append(d);
        tape.append(e);
        return tape.length;
    }

    public int end(int n) {
        if (outside(n, 0, tape.length)) {
            return NONE;
        }
        tape.length = n;
        return n;
    }

    public int contract() {
        faultPlace = reader.read(draft);
        tape.length = 0;
        if (faultPlace != NONE) {
            return refuse(WRONG_TEXT);
        }
        Terms old = terms;
        terms = draft;
        draft = old;
        return accept(terms.clauses);
    }

    public int fault() {
        return faultPlace;
    }

    public long of(int farmer, int known, int what) {
        if (isNoFarmer(farmer) || outside(known, 0, LAST_DAY) || outside(what, 0, LAST_OF_FARMER)) {
            return NONE;
        }
        books.draw(farmers, credits, baskets, terms, known);
        books.stand(farmers, terms, farmers.group[farmer]);
        switch (what) {
            case 0: return books.weight[farmer];
            case 1: return books.lent[farmer];
            case 2: return books.check[farmer];
            case 3: return books.off[farmer];
            case 4: return books.pay(farmer);
            case 5: return books.debt(farmer);
            case 6: return books.given[farmer];
            case 7: return books.pay(farmer) - books.given[farmer];
            case 8: return books.debt(farmer) - books.paid[farmer];
            case 9: return foretold(farmer);
            default: return isShort(farmer) ? 1 : 0;
        }
    }

    public long group(int group, int known, int what) {
        if (outside(group, 0, LAST_GROUP) || outside(known, 0, LAST_DAY)
                || outside(what, 0, LAST_OF_GROUP)) {
            return NONE;
        }
        books.draw(farmers, credits, baskets, terms, known);
        books.stand(farmers, terms, group);
        switch (what) {
            case 0: return farmers.howManyIn(group);
            case 1: return books.owedTogether;
            case 2: return books.givenTogether;
            default: return books.owedTogether - books.givenTogether;
        }
    }

    public int bears(int each) {
        if (outside(each, 0, MOST_YIELD)) {
            return refuse(WRONG_NUMBER);
        }
        int before = land.yieldOfField;
        land.yieldOfField = each;
        return accept(before);
    }

    public int drought(int from, int to, int part) {
        if (outside(from, 0, LAST_PLACE) || outside(to, from, LAST_PLACE) || outside(part, 0, WHOLE)) {
            return refuse(WRONG_NUMBER);
        }
        if (land.size >= MOST_DROUGHTS) {
            return refuse(NO_ROOM);
        }
        land.add(from, to, part);
        return accept(land.size);
    }

    public int visit(int farmer, int hour) {
        if (outside(hour, 0, LAST_HOUR)) {
            return refuse(WRONG_NUMBER);
        }
        if (isNoFarmer(farmer)) {
            return refuse(NO_FARMER);
        }
        if (road.size >= MOST_VISITS) {
            return refuse(NO_ROOM);
        }
        road.add(farmers.place[farmer], hour);
        return accept(road.size);
    }

    public int clear() {
        int before = road.size;
        road.size = 0;
        return before;
    }

    public int most(int place) {
        if (outside(place, 0, LAST_PLACE)) {
            return NONE;
        }
        road.walk(place);
        return road.mostMet();
    }

    public int least(int place, int n) {
        if (outside(place, 0, LAST_PLACE) || outside(n, 0, road.size)) {
            return NONE;
        }
        road.walk(place);
        int hour = road.firstHourWith(n);
        return hour == Road.NEVER ? NONE : hour;
    }

    public int led(int n, int known) {
        if (n < 0 || outside(known, 0, LAST_DAY)) {
            return NONE;
        }
        return baskets.ownerOf(n, known);
    }

    public int count(int what) {
        switch (what) {
            case 0: return farmers.size;
            case 1: return credits.size;
            case 2: return baskets.size;
            case 3: return terms.clauses;
            case 4: return land.size;
            case 5: return road.size;
            case 6: return tape.length;
            case 7: return baskets.weightTogether;
            default: return NONE;
        }
    }

    public int status() {
        return refusal;
    }

    private int refuse(int reason) {
        refusal = reason;
        return reason;
    }

    private int accept(int answer) {
        refusal = 0;
        return answer;
    }

    private boolean isNoFarmer(int farmer) {
        return outside(farmer, 0, farmers.size - 1);
    }

    private long foretold(int farmer) {
        return land.foretold(farmers.fields[farmer], farmers.place[farmer]);
    }

    private boolean isShort(int farmer) {
        return books.weight[farmer] < terms.shareOf(Terms.DUE, foretold(farmer));
    }

    private static boolean outside(int number, int lowest, int highest) {
        return number < lowest || number > highest;
    }

    private static final class Farmers {
        private final int[] group = new int[MOST_FARMERS];
        private final int[] place = new int[MOST_FARMERS];
        private final int[] fields = new int[MOST_FARMERS];
        private int size;

        private void add(int itsGroup, int itsPlace, int itsFields) {
            if (size >= MOST_FARMERS) {
                return;
            }
            group[size] = itsGroup;
            place[size] = itsPlace;
            fields[size] = itsFields;
            size++;
        }

        private int howManyIn(int wanted) {
            int many = 0;
            for (int i = 0; i < size; i++) {
                if (group[i] == wanted) {
                    many++;
                }
            }
            return many;
        }
    }

    private static final class Credits {
        private final int[] farmer = new int[MOST_CREDITS];
        private final int[] amount = new int[MOST_CREDITS];
        private final int[] known = new int[MOST_CREDITS];
        private int size;

        private void add(int itsFarmer, int itsAmount, int itsDay) {
            if (size >= MOST_CREDITS) {
                return;
            }
            farmer[size] = itsFarmer;
            amount[size] = itsAmount;
            known[size] = itsDay;
            size++;
        }
    }

    private static final class Baskets {
        private final int[] farmer = new int[MOST_BASKETS];
        private final int[] weight = new int[MOST_BASKETS];
        private final int[] grade = new int[MOST_BASKETS];
        private final int[] known = new int[MOST_BASKETS];
        private int size;
        private int weightTogether;

        private void add(int itsFarmer, int itsWeight, int itsGrade, int itsDay) {
            if (size >= MOST_BASKETS) {
                return;
            }
            farmer[size] = itsFarmer;
            weight[size] = itsWeight;
            grade[size] = itsGrade;
            known[size] = itsDay;
            size++;
            weightTogether += itsWeight;
        }

        private int ownerOf(int n, int day) {
            int ahead = n;
            for (int i = 0; i < size; i++) {
                if (known[i] > day) {
                    continue;
                }
                if (ahead < weight[i]) {
                    return farmer[i];
                }
                ahead -= weight[i];
            }
            return NONE;
        }
    }

    private static final class Tape {
        private static final int BYTES_OF_A_FEED = 20;

        private final int[] bytes = new int[MOST_BYTES];
        private int length;

        private void append(int four) {
            for (int shift = 24; shift >= 0 && length < MOST_BYTES; shift -= 8) {
                bytes[length] = (four >>> shift) & 255;
                length++;
            }
        }
    }

    /** What a contract says; of each sort the clause that was read last. */
    private static final class Terms {
        private static final int OVER = 0;
        private static final int DEBT = 1;
        private static final int STAND = 2;
        private static final int DUE = 3;
        private static final int SHARES = 4;
        private static final int NO_QUOTA = -1;

        private final int[] price = new int[LAST_GRADE + 1];
        private final int[] upper = new int[SHARES];
        private final int[] lower = new int[SHARES];
        private int quota;
        private int clauses;

        private Terms() {
            reset();
        }

        private void reset() {
            Arrays.fill(price, 0);
            setShare(OVER, 1, 1);
            setShare(DEBT, 1, 1);
            setShare(STAND, 0, 1);
            setShare(DUE, 0, 1);
            quota = NO_QUOTA;
            clauses = 0;
        }

        private void setShare(int sort, int a, int b) {
            if (sort < 0 || sort >= SHARES) {
                return;
            }
            upper[sort] = a;
            lower[sort] = b;
        }

        private long shareOf(int sort, long amount) {
            if (sort < 0 || sort >= SHARES || lower[sort] < 1) {
                return 0;
            }
            return amount * upper[sort] / lower[sort];
        }
    }

    /** Reads a tape as a contract, one token ahead. */
    private static final class ContractReader {
        private static final int AT_END = 0;
        private static final int WORD = 1;
        private static final int DIGITS = 2;
        private static final int OTHER = 3;
        private static final int BLANK = 32;
        private static final int MOST_NUMBER = 10000;

        private final Tape text;
        private Terms terms;
        private int kind;
        private int start;
        private int behind;

        private ContractReader(Tape itsText, Terms itsTerms) {
            text = itsText;
            terms = itsTerms;
        }

        /** The place of the fault, or NONE; what was read is in the terms then. */
        private int read(Terms itsTerms) {
            terms = itsTerms;
            terms.reset();
            behind = 0;
            next();
            if (kind == AT_END) {
                return NONE;
            }
            for (int done = 0; done < MOST_CLAUSES; done++) {
                if (!readClause()) {
                    return start;
                }
                terms.clauses++;
                if (kind == AT_END) {
                    return NONE;
                }
                if (!isSemicolon()) {
                    return start;
                }
                next();
            }
            return start;
        }

        private boolean readClause() {
            if (isWord("price")) {
                return readPrice();
            }
            if (isWord("quota")) {
                return readQuota();
            }
            if (isWord("over")) {
                return readShare(Terms.OVER);
            }
            if (isWord("debt")) {
                return readShare(Terms.DEBT);
            }
            if (isWord("stand")) {
                return readShare(Terms.STAND);
            }
            if (isWord("due")) {
                return readShare(Terms.DUE);
            }
            return false;
        }

        private boolean readPrice() {
            next();
            int grade = number();
            if (outside(grade, 0, LAST_GRADE)) {
                return false;
            }
            next();
            int price = number();
            if (outside(price, 0, MOST_NUMBER)) {
                return false;
            }
            terms.price[grade] = price;
            next();
            return true;
        }

        private boolean readQuota() {
            next();
            int quota = number();
            if (outside(quota, 0, MOST_NUMBER)) {
                return false;
            }
            terms.quota = quota;
            next();
            return true;
        }

        private boolean readShare(int sort) {
            next();
            int upper = number();
            if (outside(upper, 0, MOST_NUMBER)) {
                return false;
            }
            next();
            if (!isWord("of")) {
                return false;
            }
            next();
            int lower = number();
            if (outside(lower, Math.max(1, upper), MOST_NUMBER)) {
                return false;
            }
            terms.setShare(sort, upper, lower);
            next();
            return true;
        }

        private void next() {
            start = behind;
            while (start < text.length && text.bytes[start] == BLANK) {
                start++;
            }
            kind = kindAt(start);
            behind = start;
            if (kind == OTHER) {
                behind++;
            }
            if (kind == WORD || kind == DIGITS) {
                while (behind < text.length && kindAt(behind) == kind) {
                    behind++;
                }
            }
        }

        private int kindAt(int place) {
            if (place >= text.length) {
                return AT_END;
            }
            int one = text.bytes[place];
            if (one >= 'a' && one <= 'z') {
                return WORD;
            }
            return one >= '0' && one <= '9' ? DIGITS : OTHER;
        }

        private boolean isSemicolon() {
            return kind == OTHER && text.bytes[start] == ';';
        }

        private boolean isWord(String word) {
            if (kind != WORD || behind - start != word.length()) {
                return false;
            }
            for (int i = 0; i < word.length(); i++) {
                if (text.bytes[start + i] != word.charAt(i)) {
                    return false;
                }
            }
            return true;
        }

        /** NONE if the token is no number; numbers too great stop just above what can be. */
        private int number() {
            if (kind != DIGITS) {
                return NONE;
            }
            int value = 0;
            for (int i = start; i < behind; i++) {
                value = Math.min(value * 10 + text.bytes[i] - '0', MOST_NUMBER + 1);
            }
            return value;
        }
    }

    /** The accounts of all farmers as known on one day; drawn anew for each question. */
    private static final class Books {
        // Far above any level: a group never owes more than all credits, some 20,000,000.
        private static final long HIGHEST_STEP = 1L << 30;

        private final long[] weight = new long[MOST_FARMERS];
        private final long[] lent = new long[MOST_FARMERS];
        private final long[] check = new long[MOST_FARMERS];
        private final long[] beyond = new long[MOST_FARMERS];
        private final long[] off = new long[MOST_FARMERS];
        private final long[] able = new long[MOST_FARMERS];
        private final long[] given = new long[MOST_FARMERS];
        private final long[] paid = new long[MOST_FARMERS];
        private long owedTogether;
        private long ableTogether;
        private long givenTogether;

        private void draw(Farmers farmers, Credits credits, Baskets baskets, Terms terms, int day) {
            Arrays.fill(weight, 0);
            Arrays.fill(lent, 0);
            Arrays.fill(check, 0);
            Arrays.fill(beyond, 0);
            addCredits(credits, day);
            addBaskets(farmers, baskets, terms, day);
            for (int i = 0; i < farmers.size; i++) {
                check[i] += terms.shareOf(Terms.OVER, beyond[i]);
                off[i] = Math.min(terms.shareOf(Terms.DEBT, check[i]), lent[i]);
            }
        }

        private void addCredits(Credits credits, int day) {
            for (int i = 0; i < credits.size; i++) {
                if (credits.known[i] <= day) {
                    lent[credits.farmer[i]] += credits.amount[i];
                }
            }
        }

        private void addBaskets(Farmers farmers, Baskets baskets, Terms terms, int day) {
            for (int i = 0; i < baskets.size; i++) {
                if (baskets.known[i] > day) {
                    continue;
                }
                int farmer = baskets.farmer[i];
                long whole = baskets.weight[i];
                long within = whole;
                if (terms.quota != Terms.NO_QUOTA) {
                    long room = (long) terms.quota * farmers.fields[farmer] - weight[farmer];
                    within = Math.max(0, Math.min(whole, room));
                }
                long price = terms.price[baskets.grade[i]];
                check[farmer] += within * price;
                beyond[farmer] += (whole - within) * price;
                weight[farmer] += whole;
            }
        }

        private long pay(int farmer) {
            return check[farmer] - off[farmer];
        }

        private long debt(int farmer) {
            return lent[farmer] - off[farmer];
        }

        private void stand(Farmers farmers, Terms terms, int group) {
            Arrays.fill(able, 0);
            owedTogether = 0;
            ableTogether = 0;
            for (int i = 0; i < farmers.size; i++) {
                if (farmers.group[i] == group) {
                    able[i] = terms.shareOf(Terms.STAND, pay(i));
                    ableTogether += able[i];
                    owedTogether += debt(i);
                }
            }
            giveEvenly(farmers.size);
            payDebts(farmers, group);
        }

        // Who is in another group is able to give nothing, so that all farmers may be gone through.
        private void giveEvenly(int size) {
            if (ableTogether <= owedTogether) {
                System.arraycopy(able, 0, given, 0, size);
                givenTogether = ableTogether;
                return;
            }
            long level = greatestLevel(size);
            long missing = owedTogether - sumAtLevel(level, size);
            for (int i = 0; i < size; i++) {
                given[i] = Math.min(level, able[i]);
                if (missing > 0 && able[i] > level) {
                    given[i]++;
                    missing--;
                }
            }
            givenTogether = owedTogether;
        }

        private long greatestLevel(int size) {
            long level = 0;
            for (long step = HIGHEST_STEP; step > 0; step >>= 1) {
                if (sumAtLevel(level + step, size) <= owedTogether) {
                    level += step;
                }
            }
            return level;
        }

        private long sumAtLevel(long level, int size) {
            long sum = 0;
            for (int i = 0; i < size; i++) {
                sum += Math.min(level, able[i]);
            }
            return sum;
        }

        private void payDebts(Farmers farmers, int group) {
            long left = givenTogether;
            for (int i = 0; i < farmers.size; i++) {
                if (farmers.group[i] == group) {
                    paid[i] = Math.min(left, debt(i));
                    left -= paid[i];
                }
            }
        }
    }

    private static final class Land {
        private final int[] from = new int[MOST_DROUGHTS];
        private final int[] to = new int[MOST_DROUGHTS];
        private final int[] part = new int[MOST_DROUGHTS];
        private int size;
        private int yieldOfField;

        private void add(int first, int last, int lost) {
            if (size >= MOST_DROUGHTS) {
                return;
            }
            from[size] = first;
            to[size] = last;
            part[size] = lost;
            size++;
        }

        private int lostAt(int place) {
            for (int i = size - 1; i >= 0; i--) {
                if (from[i] <= place && place <= to[i]) {
                    return part[i];
                }
            }
            return 0;
        }

        private long foretold(int fields, int place) {
            return (long) fields * yieldOfField * (WHOLE - lostAt(place)) / WHOLE;
        }
    }

    /**
     * The visits in the order of their places. What the field man has walked is always one stretch
     * around his start, and the first time he comes by a place is the best time to meet all there:
     * so it is enough to know, for each stretch, the end he stands at and how many he has met, the
     * least hour.
     */
    private static final class Road {
        // Far above any hour: sixteen ways from end to end of the road take 16,000.
        private static final int NEVER = 1000000;
        private static final int LEFT = 0;
        private static final int RIGHT = 1;
        private static final int COUNTS = MOST_VISITS + 1;
        // (left + 1) * (right + 1) is greatest where the visits lie half on each side.
        private static final int STRETCHES = (MOST_VISITS / 2 + 1) * (MOST_VISITS / 2 + 1);

        private final int[] place = new int[MOST_VISITS];
        private final int[] hour = new int[MOST_VISITS];
        private final int[] earliest = new int[STRETCHES * 2 * COUNTS];
        private final int[] hourOfCount = new int[COUNTS];
        private int size;
        private int begin;
        private int left;
        private int right;

        private void add(int itsPlace, int itsHour) {
            if (size >= MOST_VISITS) {
                return;
            }
            int at = size;
            while (at > 0 && place[at - 1] > itsPlace) {
                place[at] = place[at - 1];
                hour[at] = hour[at - 1];
                at--;
            }
            place[at] = itsPlace;
            hour[at] = itsHour;
            size++;
        }

        private void walk(int itsBegin) {
            begin = itsBegin;
            left = 0;
            while (left < size && place[left] < begin) {
                left++;
            }
            right = size - left;
            Arrays.fill(earliest, NEVER);
            Arrays.fill(hourOfCount, NEVER);
            earliest[cellOf(0, 0, LEFT, 0)] = 0;
            for (int a = 0; a <= left; a++) {
                for (int b = 0; b <= right; b++) {
                    goOnFrom(a, b, LEFT);
                    goOnFrom(a, b, RIGHT);
                }
            }
        }

        private void goOnFrom(int a, int b, int side) {
            int here = placeAtEnd(a, b, side);
            for (int met = 0; met <= a + b; met++) {
                int now = earliest[cellOf(a, b, side, met)];
                if (now == NEVER) {
                    continue;
                }
                hourOfCount[met] = Math.min(hourOfCount[met], now);
                if (a < left) {
                    int visit = left - a - 1;
                    int then = now + here - place[visit];
                    arrive(cellOf(a + 1, b, LEFT, met), then, hour[visit]);
                }
                if (b < right) {
                    int visit = left + b;
                    int then = now + place[visit] - here;
                    arrive(cellOf(a, b + 1, RIGHT, met), then, hour[visit]);
                }
            }
        }

        // In time, one more is met: that count stands right behind.
        private void arrive(int index, int then, int latest) {
            int at = then <= latest ? index + 1 : index;
            earliest[at] = Math.min(earliest[at], then);
        }

        private int placeAtEnd(int a, int b, int side) {
            if (side == LEFT) {
                return a == 0 ? begin : place[left - a];
            }
            return b == 0 ? begin : place[left + b - 1];
        }

        private int cellOf(int a, int b, int side, int met) {
            return ((a * (right + 1) + b) * 2 + side) * COUNTS + met;
        }

        private int mostMet() {
            int most = 0;
            for (int met = 1; met <= size; met++) {
                if (hourOfCount[met] != NEVER) {
                    most = met;
                }
            }
            return most;
        }

        private int firstHourWith(int n) {
            int first = NEVER;
            for (int met = n; met <= size; met++) {
                first = Math.min(first, hourOfCount[met]);
            }
            return first;
        }
    }
}
