/** A crown's salt farm; ../shared/DOC.md says what each call promises. */
public final class SaltFarm {
    public static final int NONE = -1;

    private static final int NOT_THERE = -2;

    private static final int MOST_PROVINCES = 10;
    private static final int MOST_BORDERS = 16;
    private static final int MOST_EDICTS = 30;
    private static final int MOST_STORES = 8;
    private static final int MOST_BYTES = 300;
    private static final int LAST_YEAR = 99;

    private static final int MOST_MOUTHS = 100_000;
    private static final int MOST_NEED = 50;
    private static final int MOST_RISK = 500;
    private static final int MOST_GUARDS = 9;
    private static final int MOST_WEIGHT = 200;
    private static final int MOST_LAID = 3;
    private static final int MOST_PRICE = 1_000;
    private static final int MOST_OF_A_SIGN = 1_000_000;
    private static final int MOST_AT_ONCE = 1_000_000;
    private static final int MOST_IN_A_STORE = 1_000_000_000;

    private static final int NO_TROUBLE = 0;
    private static final int NONE_SUCH = 1;
    private static final int BAD_NUMBER = 2;
    private static final int NO_ROOM = 3;
    private static final int FAULTY = 4;
    private static final int NOT_COUNTED = 5;

    private final Province[] provinces = new Province[MOST_PROVINCES];
    private final Border[] borders = new Border[MOST_BORDERS];
    private final Store[] stores = new Store[MOST_STORES];
    private final Tape tape = new Tape();
    private final Parser parser = new Parser();
    private final Law law = new Law();
    private final Market market = new Market();
    private final Watch watch = new Watch();
    private int provinceCount = 0;
    private int borderCount = 0;
    private int storeCount = 0;
    private int thisYear = 0;
    private int guardWeight = 10;
    private int latestTrouble = NO_TROUBLE;
    private int latestFault = 0;
    private int faultPlace = NONE;

    public SaltFarm() {
    }

    public int province(int mouths, int need) {
        if (!fitsPeople(mouths, need)) {
            return refuse(BAD_NUMBER);
        }
        if (provinceCount >= MOST_PROVINCES) {
            return refuse(NO_ROOM);
        }
        provinces[provinceCount] = new Province(mouths, need);
        provinceCount++;
        return grant(provinceCount - 1);
    }

    public boolean people(int province, int mouths, int need) {
        Province its = provinceAt(province);
        if (its == null) {
            return deny(NONE_SUCH);
        }
        if (!fitsPeople(mouths, need)) {
            return deny(BAD_NUMBER);
        }
        its.mouths = mouths;
        its.need = need;
        its.forgetFrom(0);
        return allow();
    }

    public int border(int one, int other, int risk) {
        if (provinceAt(one) == null || provinceAt(other) == null || one == other) {
            return refuse(NONE_SUCH);
        }
        if (!within(risk, 1, MOST_RISK)) {
            return refuse(BAD_NUMBER);
        }
        if (borderCount >= MOST_BORDERS) {
            return refuse(NO_ROOM);
        }
        borders[borderCount] = new Border(one, other, risk);
        borderCount++;
        return grant(borderCount - 1);
    }

    public boolean guard(int border, int guards) {
        Border its = borderAt(border);
        if (its == null) {
            return deny(NONE_SUCH);
        }
        if (!within(guards, 0, MOST_GUARDS)) {
            return deny(BAD_NUMBER);
        }
        its.guards = guards;
        return allow();
    }

    public boolean weight(int v) {
        if (!within(v, 0, MOST_WEIGHT)) {
            return deny(BAD_NUMBER);
        }
        guardWeight = v;
        return allow();
    }

    // Not among the calls that may be refused: the document names no TROUBLE for it.
    public int feed(int a, int b, int c, int d, int e) {
        if (!tape.hasRoom()) {
            return NONE;
        }
        tape.append(a);
        tape.append(b);
        tape.append(c);
        tape.append(d);
        tape.append(e);
        return tape.length;
    }

    public int edict(int province, int year, int n) {
        Province its = provinceAt(province);
        if (its == null) {
            return refuse(NONE_SUCH);
        }
        if (!within(year, 0, LAST_YEAR) || !within(n, 0, tape.length)) {
            return refuse(BAD_NUMBER);
        }
        boolean sound = parser.reads(tape.bytes, n);
        tape.length = 0;
        latestFault = parser.fault;
        faultPlace = parser.place;
        if (!sound) {
            return refuse(FAULTY);
        }
        if (law.isFull()) {
            return refuse(NO_ROOM);
        }
        its.forgetFrom(year);
        return grant(law.add(new Edict(province, year, parser.copyOfCode())));
    }

    public int fault() {
        return latestFault;
    }

    public int where() {
        return latestTrouble == FAULTY ? faultPlace : NONE;
    }

    public int force(int province, int year) {
        if (provinceAt(province) == null || !within(year, 0, LAST_YEAR)) {
            return NONE;
        }
        return law.numberInForce(province, year);
    }

    public int price(int province, int year, boolean duty) {
        Province its = provinceAt(province);
        if (its == null || !within(year, 0, LAST_YEAR)) {
            return NONE;
        }
        law.learn(its, province, year);
        return duty ? its.duties[year] : its.prices[year];
    }

    public int brought(int from, int to) {
        if (provinceAt(from) == null || provinceAt(to) == null) {
            return NONE;
        }
        survey();
        return market.costBetween(from, to);
    }

    public int cheap(int province) {
        if (provinceAt(province) == null) {
            return NONE;
        }
        survey();
        return market.leastCost(province);
    }

    public int source(int province) {
        if (provinceAt(province) == null) {
            return NONE;
        }
        survey();
        return market.sourceOf(province);
    }

    public long taken(int province) {
        if (provinceAt(province) == null) {
            return NONE;
        }
        survey();
        return market.takenOf(province);
    }

    public long crown() {
        survey();
        return market.takenInAll();
    }

    public long lost() {
        survey();
        return market.lostInAll();
    }

    public long carried(int border) {
        if (borderAt(border) == null) {
            return NONE;
        }
        survey();
        return market.carriedOver(border);
    }

    public int way(int province) {
        if (provinceAt(province) == null) {
            return NONE;
        }
        survey();
        market.trace(province);
        return market.wayLength;
    }

    public int wayAt(int province, int i) {
        if (provinceAt(province) == null) {
            return NONE;
        }
        survey();
        market.trace(province);
        return market.borderOfWay(i);
    }

    public long best(int guards) {
        if (!within(guards, 0, MOST_LAID)) {
            return refuse(BAD_NUMBER);
        }
        survey();
        for (int i = 0; i < borderCount; i++) {
            Border its = borders[i];
            market.join(i, its.one, its.other, its.risk);
        }
        long sum = watch.lay(market, guards, guardWeight);
        latestTrouble = NO_TROUBLE;
        return sum;
    }

    public int stand(int border) {
        return watch.standingOn(border);
    }

    public int pass() {
        for (int i = 0; i < storeCount; i++) {
            if (!stores[i].isCounted) {
                return refuse(NOT_COUNTED);
            }
        }
        if (thisYear >= LAST_YEAR) {
            return refuse(BAD_NUMBER);
        }
        for (int i = 0; i < storeCount; i++) {
            stores[i].closeYear();
        }
        thisYear++;
        return grant(thisYear);
    }

    public int store(int province, int had) {
        if (provinceAt(province) == null) {
            return refuse(NONE_SUCH);
        }
        if (!within(had, 0, MOST_AT_ONCE)) {
            return refuse(BAD_NUMBER);
        }
        if (storeCount >= MOST_STORES) {
            return refuse(NO_ROOM);
        }
        stores[storeCount] = new Store(had);
        storeCount++;
        return grant(storeCount - 1);
    }

    public int moves(int store, int pounds, boolean sold) {
        Store its = storeAt(store);
        if (its == null) {
            return refuse(NONE_SUCH);
        }
        int before = sold ? its.sold : its.brought;
        if (!within(pounds, 1, MOST_AT_ONCE) || pounds > MOST_IN_A_STORE - before) {
            return refuse(BAD_NUMBER);
        }
        if (sold) {
            its.sold = before + pounds;
        } else {
            its.brought = before + pounds;
        }
        return grant(before + pounds);
    }

    public int counted(int store, int pounds) {
        Store its = storeAt(store);
        if (its == null) {
            return refuse(NONE_SUCH);
        }
        if (!within(pounds, 0, MOST_IN_A_STORE)) {
            return refuse(BAD_NUMBER);
        }
        its.counted = pounds;
        its.isCounted = true;
        return grant(its.missingThisYear());
    }

    public long missing(int store) {
        Store its = storeAt(store);
        return its == null ? 0 : its.missingBefore;
    }

    public int worst() {
        int found = NOT_THERE;
        long most = 0;
        for (int i = 0; i < storeCount; i++) {
            if (stores[i].missingBefore > most) {
                most = stores[i].missingBefore;
                found = i;
            }
        }
        return found;
    }

    public int count(int what) {
        switch (what) {
            case 0:
                return provinceCount;
            case 1:
                return borderCount;
            case 2:
                return law.size;
            case 3:
                return thisYear;
            case 4:
                return storeCount;
            case 5:
                return tape.length;
            case 6:
                return guardsInAll();
            default:
                return NONE;
        }
    }

    public int trouble() {
        return latestTrouble;
    }

    private int refuse(int why) {
        latestTrouble = why;
        return NONE;
    }

    private int grant(int answer) {
        latestTrouble = NO_TROUBLE;
        return answer;
    }

    private boolean deny(int why) {
        latestTrouble = why;
        return false;
    }

    private boolean allow() {
        latestTrouble = NO_TROUBLE;
        return true;
    }

    private Province provinceAt(int number) {
        return within(number, 0, provinceCount - 1) ? provinces[number] : null;
    }

    private Border borderAt(int number) {
        return within(number, 0, borderCount - 1) ? borders[number] : null;
    }

    private Store storeAt(int number) {
        return within(number, 0, storeCount - 1) ? stores[number] : null;
    }

    private int guardsInAll() {
        int sum = 0;
        for (int i = 0; i < borderCount; i++) {
            sum += borders[i].guards;
        }
        return sum;
    }

    /** Brings the market's rows to what holds now; nothing of a former call is trusted there. */
    private void survey() {
        market.provinceCount = provinceCount;
        market.borderCount = borderCount;
        for (int i = 0; i < provinceCount; i++) {
            Province its = provinces[i];
            law.learn(its, i, thisYear);
            market.seat(i, its, thisYear);
        }
        for (int i = 0; i < borderCount; i++) {
            Border its = borders[i];
            market.join(i, its.one, its.other, its.risk + its.guards * guardWeight);
        }
        market.settle();
    }

    private static boolean fitsPeople(int mouths, int need) {
        return within(mouths, 0, MOST_MOUTHS) && within(need, 0, MOST_NEED);
    }

    private static boolean within(int number, int least, int most) {
        return number >= least && number <= most;
    }

    private static int bound(long number, int least, int most) {
        return (int) Math.max(least, Math.min(most, number));
    }

    /** A province, with its prices and duties as far as they have been reckoned: `old` looks back year by year. */
    private static final class Province {
        int mouths;
        int need;
        final int[] prices = new int[LAST_YEAR + 1];
        final int[] duties = new int[LAST_YEAR + 1];
        int yearsKnown = 0;

        Province(int mouths, int need) {
            this.mouths = mouths;
            this.need = need;
        }

        void forgetFrom(int year) {
            yearsKnown = Math.min(yearsKnown, year);
        }
    }

    private static final class Border {
        final int one;
        final int other;
        final int risk;
        int guards = 0;

        Border(int one, int other, int risk) {
            this.one = one;
            this.other = other;
            this.risk = risk;
        }
    }

    private static final class Edict {
        final int province;
        final int year;
        final int[] code;

        Edict(int province, int year, int[] code) {
            this.province = province;
            this.year = year;
            this.code = code;
        }
    }

    private static final class Store {
        int had;
        int brought = 0;
        int sold = 0;
        int counted = 0;
        boolean isCounted = false;
        long missingBefore = 0;

        Store(int had) {
            this.had = had;
        }

        // HAD, BROUGHT, SOLD and COUNTED are at most 1,000,000,000 each, so an int holds what comes of them.
        int missingThisYear() {
            return had + brought - sold - counted;
        }

        void closeYear() {
            missingBefore += missingThisYear();
            had = counted;
            brought = 0;
            sold = 0;
            isCounted = false;
        }
    }

    private static final class Tape {
        static final int BYTES_OF_A_FEED = 20;

        final byte[] bytes = new byte[MOST_BYTES];
        int length = 0;

        boolean hasRoom() {
            return length + BYTES_OF_A_FEED <= MOST_BYTES;
        }

        void append(int number) {
            for (int shift = 24; shift >= 0 && length < MOST_BYTES; shift -= 8) {
                bytes[length] = (byte) (number >> shift);
                length++;
            }
        }
    }

    /** The tokens of a text. A number stands for itself, so all other tokens are below 0. */
    private static final class Tokens {
        static final int PRICE = -1;
        static final int DUTY = -2;
        static final int WHEN = -3;
        static final int AND = -4;
        static final int IS = -5;
        static final int YEAR = -6;
        static final int MOUTHS = -7;
        static final int NEED = -8;
        static final int OLD = -9;
        static final int STRANGE_WORD = -10;
        static final int LESS = -11;
        static final int MORE = -12;
        static final int SAME = -13;
        static final int PLUS = -14;
        static final int MINUS = -15;
        static final int TIMES = -16;
        static final int OVER = -17;
        static final int OPEN = -18;
        static final int CLOSE = -19;
        static final int SEMICOLON = -20;
        static final int END = -21;
        static final int NO_TOKEN = -22;

        static final int MOST_LETTERS = 8;
        static final int MOST_DIGITS = 4;

        final int[] tokens = new int[MOST_BYTES + 1];
        final int[] places = new int[MOST_BYTES + 1];
        int size = 0;

        /** What begins no token ends the list: no text goes on with it, whatever comes behind. */
        void scan(byte[] text, int length) {
            size = 0;
            int at = 0;
            for (int round = 0; round < length && at < length; round++) {
                int end = endOfRun(text, at, length);
                if (text[at] != ' ') {
                    int token = tokenOf(text, at, end);
                    add(token, at);
                    if (token == NO_TOKEN) {
                        return;
                    }
                }
                at = end;
            }
            add(END, length);
        }

        private void add(int token, int place) {
            if (size < tokens.length) {
                tokens[size] = token;
                places[size] = place;
                size++;
            }
        }

        private static int endOfRun(byte[] text, int from, int length) {
            int end = from + 1;
            if (isLetter(text[from])) {
                while (end < length && isLetter(text[end])) {
                    end++;
                }
            } else if (isDigit(text[from])) {
                while (end < length && isDigit(text[end])) {
                    end++;
                }
            }
            return end;
        }

        private static int tokenOf(byte[] text, int from, int end) {
            if (isLetter(text[from])) {
                return end - from > MOST_LETTERS ? NO_TOKEN : wordOf(text, from, end);
            }
            if (isDigit(text[from])) {
                return end - from > MOST_DIGITS ? NO_TOKEN : numberOf(text, from, end);
            }
            return signOf(text[from]);
        }

        private static int numberOf(byte[] text, int from, int end) {
            int number = 0;
            for (int i = from; i < end; i++) {
                number = number * 10 + (text[i] - '0');
            }
            return number;
        }

        private static int wordOf(byte[] text, int from, int end) {
            if (spells(text, from, end, "price")) {
                return PRICE;
            }
            if (spells(text, from, end, "duty")) {
                return DUTY;
            }
            if (spells(text, from, end, "when")) {
                return WHEN;
            }
            if (spells(text, from, end, "and")) {
                return AND;
            }
            if (spells(text, from, end, "is")) {
                return IS;
            }
            return nameOf(text, from, end);
        }

        private static int nameOf(byte[] text, int from, int end) {
            if (spells(text, from, end, "year")) {
                return YEAR;
            }
            if (spells(text, from, end, "mouths")) {
                return MOUTHS;
            }
            if (spells(text, from, end, "need")) {
                return NEED;
            }
            if (spells(text, from, end, "old")) {
                return OLD;
            }
            return STRANGE_WORD;
        }

        private static boolean spells(byte[] text, int from, int end, String word) {
            if (end - from != word.length()) {
                return false;
            }
            for (int i = from; i < end; i++) {
                if (text[i] != word.charAt(i - from)) {
                    return false;
                }
            }
            return true;
        }

        private static int signOf(byte sign) {
            switch (sign) {
                case '<':
                    return LESS;
                case '>':
                    return MORE;
                case '=':
                    return SAME;
                case '+':
                    return PLUS;
                case '-':
                    return MINUS;
                case '*':
                    return TIMES;
                case '/':
                    return OVER;
                case '(':
                    return OPEN;
                case ')':
                    return CLOSE;
                case ';':
                    return SEMICOLON;
                default:
                    return NO_TOKEN;
            }
        }

        private static boolean isLetter(byte sign) {
            return sign >= 'a' && sign <= 'z';
        }

        private static boolean isDigit(byte sign) {
            return sign >= '0' && sign <= '9';
        }
    }

    /**
     * Reads a text and writes its code: for each line its kind (PRICE or DUTY), its tests and its sum with each sign
     * behind what it joins, and IS. No token gives more than one word of code, so the code is never longer.
     */
    private static final class Parser {
        static final int FORM = 1;
        static final int NO_NAME = 2;
        static final int MANY = 3;

        static final int MOST_LINES = 12;
        static final int MOST_TESTS = 4;
        static final int MOST_OPEN = 8;
        static final int MOST_SIGNS = 60;

        final Tokens list = new Tokens();
        final int[] code = new int[MOST_BYTES + 1];
        int size = 0;
        int at = 0;
        int signs = 0;
        int fault = 0;
        int place = NONE;

        boolean reads(byte[] text, int length) {
            list.scan(text, length);
            size = 0;
            at = 0;
            signs = 0;
            fault = 0;
            place = NONE;
            for (int lines = 1; lines <= MOST_LINES + 1; lines++) {
                if (!readsLine(lines)) {
                    return false;
                }
                if (token() == Tokens.END) {
                    return true;
                }
                if (token() != Tokens.SEMICOLON) {
                    return fail(FORM);
                }
                at++;
            }
            return fail(MANY);
        }

        int[] copyOfCode() {
            int[] copy = new int[size];
            System.arraycopy(code, 0, copy, 0, size);
            return copy;
        }

        private boolean readsLine(int number) {
            int kind = token();
            if (kind != Tokens.PRICE && kind != Tokens.DUTY) {
                return fail(FORM);
            }
            if (number > MOST_LINES) {
                return fail(MANY);
            }
            write(kind);
            at++;
            if (token() == Tokens.WHEN && !readsTests()) {
                return false;
            }
            if (token() != Tokens.IS) {
                return fail(FORM);
            }
            at++;
            if (!readsSum(0)) {
                return false;
            }
            write(Tokens.IS);
            return true;
        }

        private boolean readsTests() {
            for (int tests = 1; tests <= MOST_TESTS + 1; tests++) {
                at++;
                int wrong = faultAsOne(token());
                if (wrong != 0) {
                    return fail(wrong);
                }
                if (tests > MOST_TESTS) {
                    return fail(MANY);
                }
                if (!readsSum(0)) {
                    return false;
                }
                int sign = token();
                if (sign != Tokens.LESS && sign != Tokens.MORE && sign != Tokens.SAME) {
                    return fail(FORM);
                }
                at++;
                if (!readsSum(0)) {
                    return false;
                }
                write(sign);
                if (token() != Tokens.AND) {
                    return true;
                }
            }
            return fail(MANY);
        }

        private boolean readsSum(int open) {
            if (!readsTerm(open)) {
                return false;
            }
            for (int i = 0; i <= MOST_SIGNS; i++) {
                int sign = token();
                if (sign != Tokens.PLUS && sign != Tokens.MINUS) {
                    return true;
                }
                if (!passesSign() || !readsTerm(open)) {
                    return false;
                }
                write(sign);
            }
            return fail(MANY);
        }

        private boolean readsTerm(int open) {
            if (!readsOne(open)) {
                return false;
            }
            for (int i = 0; i <= MOST_SIGNS; i++) {
                int sign = token();
                if (sign != Tokens.TIMES && sign != Tokens.OVER) {
                    return true;
                }
                if (!passesSign() || !readsOne(open)) {
                    return false;
                }
                write(sign);
            }
            return fail(MANY);
        }

        private boolean readsOne(int open) {
            int one = token();
            int wrong = faultAsOne(one);
            if (wrong != 0) {
                return fail(wrong);
            }
            if (one != Tokens.OPEN) {
                write(one);
                at++;
                return true;
            }
            if (open >= MOST_OPEN) {
                return fail(MANY);
            }
            at++;
            if (!readsSum(open + 1)) {
                return false;
            }
            if (token() != Tokens.CLOSE) {
                return fail(FORM);
            }
            at++;
            return true;
        }

        private boolean passesSign() {
            if (signs >= MOST_SIGNS) {
                return fail(MANY);
            }
            signs++;
            at++;
            return true;
        }

        private static int faultAsOne(int token) {
            if (token == Tokens.STRANGE_WORD) {
                return NO_NAME;
            }
            boolean isName = token <= Tokens.YEAR && token >= Tokens.OLD;
            return token >= 0 || isName || token == Tokens.OPEN ? 0 : FORM;
        }

        private int token() {
            return at < list.size ? list.tokens[at] : Tokens.END;
        }

        private boolean fail(int what) {
            fault = what;
            place = at < list.size ? list.places[at] : NONE;
            return false;
        }

        private void write(int word) {
            if (size < code.length) {
                code[size] = word;
                size++;
            }
        }
    }

    /** All edicts, and what they make of a province's prices and duties. */
    private static final class Law {
        final Edict[] edicts = new Edict[MOST_EDICTS];
        final Reckoner reckoner = new Reckoner();
        int size = 0;

        boolean isFull() {
            return size >= MOST_EDICTS;
        }

        int add(Edict edict) {
            if (isFull()) {
                return NONE;
            }
            edicts[size] = edict;
            size++;
            return size - 1;
        }

        int numberInForce(int province, int year) {
            int found = NOT_THERE;
            int since = 0;
            for (int i = 0; i < size; i++) {
                Edict edict = edicts[i];
                if (edict.province == province && edict.year <= year && edict.year >= since) {
                    found = i;
                    since = edict.year;
                }
            }
            return found;
        }

        void learn(Province province, int number, int year) {
            for (int y = province.yearsKnown; y <= year && y <= LAST_YEAR; y++) {
                learnYear(province, number, y);
                province.yearsKnown = y + 1;
            }
        }

        private void learnYear(Province province, int number, int year) {
            int inForce = numberInForce(number, year);
            if (inForce < 0) {
                province.prices[year] = 0;
                province.duties[year] = 0;
                return;
            }
            int[] code = edicts[inForce].code;
            reckoner.year = year;
            reckoner.mouths = province.mouths;
            reckoner.need = province.need;
            reckoner.old = year > 0 ? province.prices[year - 1] : 0;
            province.prices[year] = bound(reckoner.tell(code, Tokens.PRICE), 0, MOST_PRICE);
            reckoner.old = year > 0 ? province.duties[year - 1] : 0;
            province.duties[year] = bound(reckoner.tell(code, Tokens.DUTY), 0, province.need);
        }
    }

    /** Reckons the code of an edict for one province and year. */
    private static final class Reckoner {
        // Eight open brackets keep two numbers waiting each, and so do the sum outside and a test's left side.
        static final int MOST_WAITING = 32;

        final int[] waiting = new int[MOST_WAITING];
        int size = 0;
        int year = 0;
        int mouths = 0;
        int need = 0;
        int old = 0;

        int tell(int[] code, int kind) {
            boolean holds = false;
            size = 0;
            for (int i = 0; i < code.length; i++) {
                int word = code[i];
                if (word == Tokens.PRICE || word == Tokens.DUTY) {
                    holds = word == kind;
                } else if (holds && word == Tokens.IS) {
                    return pop();
                } else if (holds) {
                    holds = step(word);
                }
            }
            return 0;
        }

        /** False if this is a test that doesn't hold. */
        private boolean step(int word) {
            if (word >= 0) {
                push(word);
                return true;
            }
            if (word <= Tokens.YEAR && word >= Tokens.OLD) {
                push(named(word));
                return true;
            }
            int right = pop();
            int left = pop();
            if (word <= Tokens.LESS && word >= Tokens.SAME) {
                return compares(word, left, right);
            }
            push(bound(joined(word, left, right), -MOST_OF_A_SIGN, MOST_OF_A_SIGN));
            return true;
        }

        private int named(int name) {
            switch (name) {
                case Tokens.YEAR:
                    return year;
                case Tokens.MOUTHS:
                    return mouths;
                case Tokens.NEED:
                    return need;
                default:
                    return old;
            }
        }

        private static boolean compares(int sign, int left, int right) {
            switch (sign) {
                case Tokens.LESS:
                    return left < right;
                case Tokens.MORE:
                    return left > right;
                default:
                    return left == right;
            }
        }

        private static long joined(int sign, long left, long right) {
            switch (sign) {
                case Tokens.PLUS:
                    return left + right;
                case Tokens.MINUS:
                    return left - right;
                case Tokens.TIMES:
                    return left * right;
                default:
                    return right == 0 ? 0 : left / right;
            }
        }

        private void push(int number) {
            if (size < waiting.length) {
                waiting[size] = number;
                size++;
            }
        }

        private int pop() {
            if (size <= 0) {
                return 0;
            }
            size--;
            return waiting[size];
        }
    }

    /** Where each province's salt comes from in one year, at the prices and tolls set here. */
    private static final class Market {
        // A cost and the number of its source as one number, so that the less of two is the one to take.
        static final int SOURCE_BITS = 4;
        static final int SOURCE_MASK = 15;
        static final int TOO_FAR = 1_000_000;

        final int[] prices = new int[MOST_PROVINCES];
        final long[] duePounds = new long[MOST_PROVINCES];
        final long[] restPounds = new long[MOST_PROVINCES];
        final int[] offers = new int[MOST_PROVINCES];
        final int[] tollsTo = new int[MOST_PROVINCES];
        final int[] way = new int[MOST_PROVINCES];
        final int[] ones = new int[MOST_BORDERS];
        final int[] others = new int[MOST_BORDERS];
        final int[] tolls = new int[MOST_BORDERS];
        int provinceCount = 0;
        int borderCount = 0;
        int wayLength = 0;

        void seat(int number, Province province, int year) {
            int duty = province.duties[year];
            prices[number] = province.prices[year];
            duePounds[number] = (long) province.mouths * duty;
            restPounds[number] = (long) province.mouths * (province.need - duty);
        }

        void join(int number, int one, int other, int toll) {
            ones[number] = one;
            others[number] = other;
            tolls[number] = toll;
        }

        void settle() {
            for (int i = 0; i < provinceCount; i++) {
                offers[i] = (prices[i] << SOURCE_BITS) + i;
            }
            spread(offers, SOURCE_BITS);
        }

        int leastCost(int province) {
            return offers[province] >> SOURCE_BITS;
        }

        int sourceOf(int province) {
            return leastCost(province) == prices[province] ? province : offers[province] & SOURCE_MASK;
        }

        int costBetween(int from, int to) {
            measureTo(to);
            return tollsTo[from] >= TOO_FAR ? NOT_THERE : prices[from] + tollsTo[from];
        }

        long takenOf(int province) {
            long pounds = duePounds[province];
            for (int i = 0; i < provinceCount; i++) {
                if (sourceOf(i) == province) {
                    pounds += restPounds[i];
                }
            }
            return pounds * prices[province];
        }

        long takenInAll() {
            long sum = 0;
            for (int i = 0; i < provinceCount; i++) {
                sum += duePounds[i] * prices[i] + restPounds[i] * prices[sourceOf(i)];
            }
            return sum;
        }

        long lostInAll() {
            long sum = 0;
            for (int i = 0; i < provinceCount; i++) {
                sum += restPounds[i] * (prices[i] - prices[sourceOf(i)]);
            }
            return sum;
        }

        long carriedOver(int border) {
            long pounds = 0;
            for (int i = 0; i < provinceCount; i++) {
                trace(i);
                for (int k = 0; k < wayLength; k++) {
                    if (way[k] == border) {
                        pounds += restPounds[i];
                    }
                }
            }
            return pounds;
        }

        /** At each step the least border that keeps to the least cost: ties are broken from the source on. */
        void trace(int province) {
            wayLength = 0;
            int at = sourceOf(province);
            if (at == province) {
                return;
            }
            measureTo(province);
            for (int step = 0; step < MOST_PROVINCES && at != province; step++) {
                int border = firstOnward(at);
                if (border < 0) {
                    return;
                }
                way[step] = border;
                wayLength = step + 1;
                at = ones[border] == at ? others[border] : ones[border];
            }
        }

        int borderOfWay(int i) {
            return i >= 0 && i < wayLength ? way[i] : NONE;
        }

        private int firstOnward(int from) {
            for (int i = 0; i < borderCount; i++) {
                if (ones[i] == from && tollsTo[others[i]] + tolls[i] == tollsTo[from]) {
                    return i;
                }
                if (others[i] == from && tollsTo[ones[i]] + tolls[i] == tollsTo[from]) {
                    return i;
                }
            }
            return NONE;
        }

        private void measureTo(int province) {
            for (int i = 0; i < provinceCount; i++) {
                tollsTo[i] = i == province ? 0 : TOO_FAR;
            }
            spread(tollsTo, 0);
        }

        /** A least way crosses no province twice, so as many rounds as provinces are enough. */
        private void spread(int[] costs, int bits) {
            boolean changed = true;
            for (int round = 0; changed && round < provinceCount; round++) {
                changed = false;
                for (int i = 0; i < borderCount; i++) {
                    int one = ones[i];
                    int other = others[i];
                    int toll = tolls[i] << bits;
                    if (costs[one] + toll < costs[other]) {
                        costs[other] = costs[one] + toll;
                        changed = true;
                    } else if (costs[other] + toll < costs[one]) {
                        costs[one] = costs[other] + toll;
                        changed = true;
                    }
                }
            }
        }
    }

    /** Tries all ways to lay guards, and keeps the best. */
    private static final class Watch {
        // Three guards on sixteen borders can be laid in 816 ways.
        static final int MOST_TRIES = 1_000;

        final int[] posts = new int[MOST_LAID];
        final int[] standing = new int[MOST_BORDERS];
        int borderCount = 0;
        int guards = 0;

        /** The market's tolls are the bare risks; they are so again at the end. */
        long lay(Market market, int wanted, int weight) {
            borderCount = market.borderCount;
            guards = borderCount == 0 ? 0 : wanted;
            for (int i = 0; i < MOST_LAID; i++) {
                posts[i] = 0;
            }
            long most = NONE;
            boolean more = true;
            for (int tries = 0; more && tries < MOST_TRIES; tries++) {
                charge(market, weight);
                market.settle();
                long sum = market.takenInAll();
                charge(market, -weight);
                if (sum > most) {
                    most = sum;
                    keep();
                }
                more = shift();
            }
            return most;
        }

        int standingOn(int border) {
            return border >= 0 && border < borderCount ? standing[border] : NONE;
        }

        private void charge(Market market, int pence) {
            for (int i = 0; i < guards; i++) {
                market.tolls[posts[i]] += pence;
            }
        }

        private void keep() {
            for (int i = 0; i < borderCount; i++) {
                standing[i] = 0;
            }
            for (int i = 0; i < guards; i++) {
                standing[posts[i]]++;
            }
        }

        /** The posts never fall from one guard to the next, and rise so that more on lower borders comes first. */
        private boolean shift() {
            for (int i = guards - 1; i >= 0; i--) {
                if (posts[i] < borderCount - 1) {
                    int post = posts[i] + 1;
                    for (int k = i; k < guards; k++) {
                        posts[k] = post;
                    }
                    return true;
                }
            }
            return false;
        }
    }
}
