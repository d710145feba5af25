/** THE TAPE and promises 7 to 10, sentence by sentence: empty, full and one more than full, and the refused calls. */
public final class EdgeTapeTest {
    private static final Check CHECK = new Check();
    private static final int LEAST = Integer.MIN_VALUE;
    private static final int MOST = Integer.MAX_VALUE;
    private static final int BLANKS = 0x20202020;

    public static void main(String[] args) {
        threeHundredBytes();
        noneComes();
        behindTheTape();
        highestFirst();
        firstBytes();
        wholeTape();
        emptyThen();
        leftByRefusals();
        numberOfBytes();
        edictRefusals();
        fault();
        faultBehindNoRoom();
        where();
        whereBehindOthers();
        CHECK.end();
    }

    private static int feedBlanks(SaltFarm farm) {
        return farm.feed(BLANKS, BLANKS, BLANKS, BLANKS, BLANKS);
    }

    private static void threeHundredBytes() {
        CHECK.sentence("THE TAPE has 300 bytes");
        SaltFarm farm = new SaltFarm();
        CHECK.due("count(5), empty", farm.count(5), 0);
        for (int i = 1; i <= 15; i++) {
            CHECK.due("feed " + i, feedBlanks(farm), 20 * i);
            CHECK.due("count(5)", farm.count(5), 20 * i);
        }
        CHECK.due("a 16th", feedBlanks(farm), -1);
        CHECK.due("a 17th", feedBlanks(farm), -1);
        CHECK.due("count(5), full", farm.count(5), 300);
    }

    private static void noneComes() {
        CHECK.sentence("NONE, and none comes, if there would be more than 300.");
        SaltFarm farm = Farms.withProvinces(1);
        Check.feed(farm, Check.times(" ", 290) + "price is 7");
        CHECK.due("feed", farm.feed(LEAST, -1, 0, 1, MOST), -1);
        CHECK.due("count(5)", farm.count(5), 300);
        CHECK.refused(farm, "edict(0, 0, 301)", farm.edict(0, 0, 301), -1, 2);
        CHECK.granted(farm, "edict(0, 0, 300)", farm.edict(0, 0, 300), 0);
        CHECK.due("price(0, 0)", farm.price(0, 0, false), 7);
        CHECK.due("feed, there is room again", feedBlanks(farm), 20);
        CHECK.due("feed behind it", Check.feed(farm, "price is 8"), 40);
        CHECK.granted(farm, "edict(0, 0, 30)", farm.edict(0, 0, 30), 1);
        CHECK.due("price(0, 0)", farm.price(0, 0, false), 8);
    }

    private static void behindTheTape() {
        CHECK.sentence("Twenty bytes come behind THE TAPE, of each number the highest first: how many it has;");
        SaltFarm farm = Farms.withProvinces(1);
        CHECK.due("feed 'price is 1+2+3+4+5+6'", Check.feed(farm, "price is 1+2+3+4+5+6"), 20);
        CHECK.due("feed '+7+8+9'", Check.feed(farm, "+7+8+9"), 40);
        CHECK.granted(farm, "edict(0, 0, 26)", farm.edict(0, 0, 26), 0);
        CHECK.due("price(0, 0)", farm.price(0, 0, false), 45);
    }

    private static void highestFirst() {
        CHECK.sentence("of each number the highest first");
        for (int place = 0; place < 20; place++) {
            for (int sign : new int[] {0, '!', 127, 128, 255}) {
                SaltFarm farm = Farms.withProvinces(1);
                String text = Check.times(" ", place) + (char) sign + Check.times(" ", 19 - place);
                Check.feed(farm, text);
                CHECK.refused(farm, "byte " + sign + " at " + place, farm.edict(0, 0, 20), -1, 4);
                CHECK.due("where() of byte " + sign, farm.where(), place);
            }
        }
    }

    private static void firstBytes() {
        CHECK.sentence("The first n bytes of THE TAPE (it is empty then) are an EDICT of a PROVINCE from a YEAR on");
        SaltFarm farm = Farms.withProvinces(1);
        int[] want = {1, 12, 123, 1000};
        for (int i = 0; i < 4; i++) {
            Check.feed(farm, "price is 12345");
            CHECK.granted(farm, "edict(0, 0, " + (10 + i) + ")", farm.edict(0, 0, 10 + i), i);
            CHECK.due("price(0, 0)", farm.price(0, 0, false), want[i]);
            CHECK.due("count(5)", farm.count(5), 0);
        }
        Check.feed(farm, "price is 12345");
        CHECK.refused(farm, "edict(0, 0, 14)", farm.edict(0, 0, 14), -1, 4);
        Check.feed(farm, "price is 12345");
        CHECK.refused(farm, "edict(0, 0, 9)", farm.edict(0, 0, 9), -1, 4);
        CHECK.due("where()", farm.where(), 9);
        Check.feed(farm, "price is 1");
        CHECK.refused(farm, "edict(0, 0, 1): 'p'", farm.edict(0, 0, 1), -1, 4);
        CHECK.due("where()", farm.where(), 0);
    }

    private static void wholeTape() {
        CHECK.sentence("The first n bytes of THE TAPE (it is empty then)");
        SaltFarm farm = Farms.withProvinces(1);
        String text = "price is " + Check.times("(", 8) + "1" + Check.times("+1", 60) + Check.times(")", 8);
        String lines = text + Check.times(";duty is 2", 11);
        String padded = lines + Check.times(" ", 300 - lines.length());
        CHECK.granted(farm, "a text of 300 bytes", Check.tell(farm, 0, 0, padded), 0);
        CHECK.due("price(0, 0)", farm.price(0, 0, false), 61);
        CHECK.due("duty(0, 0)", farm.price(0, 0, true), 2);
        String tight = Check.times("price is((1));", 11) + "duty when 1<2 and 1<2 and 1<2 and 1<2 is 1";
        String filled = tight + Check.times("*1", (300 - tight.length()) / 2);
        CHECK.due("its length", filled.length(), 300);
        CHECK.granted(farm, "a text of 300 bytes without room", Check.tell(farm, 0, 0, filled), 1);
        CHECK.due("duty(0, 0)", farm.price(0, 0, true), 1);
        Check.feed(farm, Check.times("(", 300));
        CHECK.refused(farm, "300 brackets", farm.edict(0, 0, 300), -1, 4);
        CHECK.due("where()", farm.where(), 0);
        Check.feed(farm, Check.times(" ", 300));
        CHECK.refused(farm, "300 blanks", farm.edict(0, 0, 300), -1, 4);
        CHECK.due("where()", farm.where(), 300);
        Check.feed(farm, "price is " + Check.times("x", 291));
        CHECK.refused(farm, "a word of 291 letters", farm.edict(0, 0, 300), -1, 4);
        CHECK.due("where()", farm.where(), 9);
        Check.feed(farm, "price is " + Check.times("1", 291));
        CHECK.refused(farm, "a number of 291 digits", farm.edict(0, 0, 300), -1, 4);
        CHECK.due("where()", farm.where(), 9);
    }

    private static void emptyThen() {
        CHECK.sentence("(it is empty then)");
        SaltFarm farm = Farms.withProvinces(1);
        for (int i = 0; i < 30; i++) {
            Check.feed(farm, "price is 1          price is 2");
            CHECK.granted(farm, "edict", farm.edict(0, 0, 10), i);
            CHECK.due("count(5) behind an edict", farm.count(5), 0);
        }
        Check.feed(farm, "price is 1          price is 2");
        CHECK.refused(farm, "a faulty one", farm.edict(0, 0, 30), -1, 4);
        CHECK.due("count(5) behind a fault", farm.count(5), 0);
        Check.feed(farm, "price is 1          price is 2");
        CHECK.refused(farm, "one without room", farm.edict(0, 0, 10), -1, 3);
        CHECK.due("count(5) behind no room", farm.count(5), 0);
        CHECK.refused(farm, "edict(0, 0, 1) of an empty tape", farm.edict(0, 0, 1), -1, 2);
        CHECK.refused(farm, "edict(0, 0, 0) of an empty tape", farm.edict(0, 0, 0), -1, 4);
    }

    private static void leftByRefusals() {
        CHECK.sentence("NONE: 1, 2 (both leave THE TAPE); 4; 3.");
        SaltFarm farm = Farms.withProvinces(1);
        Check.feed(farm, "price is 12");
        int[] wrong = {LEAST, -1, 1, 10, MOST};
        for (int province : wrong) {
            CHECK.refused(farm, "edict(" + province + ", 0, 11)", farm.edict(province, 0, 11), -1, 1);
            CHECK.due("count(5)", farm.count(5), 20);
        }
        CHECK.refused(farm, "edict(0, 100, 11)", farm.edict(0, 100, 11), -1, 2);
        CHECK.due("count(5)", farm.count(5), 20);
        CHECK.refused(farm, "edict(0, 0, 21)", farm.edict(0, 0, 21), -1, 2);
        CHECK.due("count(5)", farm.count(5), 20);
        CHECK.due("feed behind them", Check.feed(farm, "+34"), 40);
        CHECK.granted(farm, "edict(0, 0, 23)", farm.edict(0, 0, 23), 0);
        CHECK.due("price(0, 0)", farm.price(0, 0, false), 46);
    }

    private static void numberOfBytes() {
        CHECK.sentence("The first n bytes of THE TAPE");
        int[] wrong = {LEAST, -300, -1, 21, 300, 301, MOST};
        SaltFarm farm = Farms.withProvinces(1);
        Check.feed(farm, "price is 1");
        for (int n : wrong) {
            CHECK.refused(farm, "edict(0, 0, " + n + ")", farm.edict(0, 0, n), -1, 2);
        }
        CHECK.granted(farm, "edict(0, 0, 20)", farm.edict(0, 0, 20), 0);
        Check.feed(farm, "price is 1");
        CHECK.refused(farm, "edict(0, 0, 0)", farm.edict(0, 0, 0), -1, 4);
        CHECK.due("fault()", farm.fault(), 1);
        CHECK.due("where()", farm.where(), 0);
    }

    private static void edictRefusals() {
        CHECK.sentence("NONE: 1, 2 (both leave THE TAPE); 4; 3.");
        SaltFarm farm = Farms.full();
        CHECK.due("count(5)", farm.count(5), 300);
        CHECK.refused(farm, "1 ahead of 2", farm.edict(10, 100, 301), -1, 1);
        CHECK.refused(farm, "1 ahead of 4", farm.edict(-1, 0, 5), -1, 1);
        CHECK.refused(farm, "1 ahead of 3", farm.edict(10, 0, 20), -1, 1);
        CHECK.refused(farm, "2 ahead of 4", farm.edict(0, 100, 5), -1, 2);
        CHECK.refused(farm, "2 ahead of 3", farm.edict(9, -1, 20), -1, 2);
        CHECK.due("count(5)", farm.count(5), 300);
        CHECK.refused(farm, "4 ahead of 3", farm.edict(9, 99, 19), -1, 4);
        CHECK.due("count(5)", farm.count(5), 0);
        CHECK.refused(farm, "3", Check.tell(farm, 9, 99, "duty is 1;price is 9"), -1, 3);
        CHECK.due("count(2)", farm.count(2), 30);
        CHECK.due("force(9, 99)", farm.force(9, 99), 29);
    }

    private static void fault() {
        CHECK.sentence("The FAULT of the latest edict() not refused by 1, 2; 0 without one.");
        SaltFarm farm = Farms.withProvinces(1);
        CHECK.due("fault() ahead of all", farm.fault(), 0);
        farm.edict(1, 0, 0);
        CHECK.due("fault() behind a refusal by 1", farm.fault(), 0);
        Check.tell(farm, 0, 0, "price");
        CHECK.due("fault()", farm.fault(), 1);
        farm.edict(1, 0, 0);
        CHECK.due("fault() behind a refusal by 1", farm.fault(), 1);
        Check.tell(farm, 0, 0, "price is salt");
        CHECK.due("fault()", farm.fault(), 2);
        farm.edict(0, 100, 0);
        CHECK.due("fault() behind a refusal by 2, a year", farm.fault(), 2);
        farm.edict(0, 0, 1);
        CHECK.due("fault() behind a refusal by 2, the bytes", farm.fault(), 2);
        Check.tell(farm, 0, 0, "price is (((((((((1");
        CHECK.due("fault()", farm.fault(), 3);
        farm.province(1, 1);
        farm.border(0, 0, 0);
        farm.pass();
        CHECK.due("fault() behind other calls", farm.fault(), 3);
        Check.tell(farm, 0, 0, "price is 1");
        CHECK.due("fault() behind a sound one", farm.fault(), 0);
        farm.edict(0, -1, 0);
        CHECK.due("fault() behind a refusal by 2", farm.fault(), 0);
    }

    private static void faultBehindNoRoom() {
        CHECK.sentence("The FAULT of the latest edict() not refused by 1, 2; 0 without one.");
        SaltFarm farm = Farms.withProvinces(1);
        for (int i = 0; i < 30; i++) {
            Check.tell(farm, 0, 0, "price is 1");
        }
        CHECK.refused(farm, "a faulty one", Check.tell(farm, 0, 0, "price is salt"), -1, 4);
        CHECK.due("fault()", farm.fault(), 2);
        CHECK.due("where()", farm.where(), 9);
        CHECK.refused(farm, "a sound one without room", Check.tell(farm, 0, 0, "price is 1"), -1, 3);
        CHECK.due("fault()", farm.fault(), 0);
        CHECK.due("where()", farm.where(), -1);
    }

    private static void where() {
        CHECK.sentence("Its place, if the latest call that may be refused was by 4; NONE else.");
        SaltFarm farm = Farms.withProvinces(1);
        CHECK.due("where() ahead of all", farm.where(), -1);
        Check.tell(farm, 0, 0, "price is salt");
        CHECK.due("where()", farm.where(), 9);
        CHECK.due("where() again", farm.where(), 9);
        Check.tell(farm, 0, 0, "price is 1");
        CHECK.due("where() behind a sound one", farm.where(), -1);
        Check.tell(farm, 0, 0, "pepper is 1");
        CHECK.due("where()", farm.where(), 0);
        farm.edict(1, 0, 0);
        CHECK.due("where() behind a refusal by 1", farm.where(), -1);
        Check.tell(farm, 0, 0, "price when salt");
        CHECK.due("where()", farm.where(), 11);
        farm.edict(0, 100, 0);
        CHECK.due("where() behind a refusal by 2", farm.where(), -1);
    }

    /** Each call that may be refused, granted and refused, behind a fault. */
    private static void whereBehindOthers() {
        CHECK.sentence("if the latest call that may be refused was by 4; NONE else.");
        for (int call = 0; call < 20; call++) {
            SaltFarm farm = Farms.withProvinces(2);
            farm.border(0, 1, 5);
            farm.store(0, 5);
            Check.tell(farm, 0, 0, "price is salt");
            CHECK.due("where() ahead of call " + call, farm.where(), 9);
            callThatMayBeRefused(farm, call);
            CHECK.due("where() behind call " + call, farm.where(), -1);
            CHECK.due("fault() behind call " + call, farm.fault(), 2);
        }
    }

    private static void callThatMayBeRefused(SaltFarm farm, int call) {
        switch (call) {
            case 0 -> farm.province(1, 1);
            case 1 -> farm.province(1, 51);
            case 2 -> farm.people(0, 1, 1);
            case 3 -> farm.people(2, 1, 1);
            case 4 -> farm.border(0, 1, 1);
            case 5 -> farm.border(0, 0, 1);
            case 6 -> farm.guard(0, 1);
            case 7 -> farm.guard(1, 1);
            case 8 -> farm.weight(1);
            case 9 -> farm.weight(-1);
            case 10 -> farm.best(1);
            case 11 -> farm.best(4);
            case 12 -> farm.pass();
            case 13 -> farm.store(0, 1);
            case 14 -> farm.store(2, 1);
            case 15 -> farm.moves(0, 1, true);
            case 16 -> farm.moves(0, 0, true);
            case 17 -> farm.counted(0, 1);
            case 18 -> farm.counted(1, 1);
            default -> {
                farm.counted(0, 1);
                farm.pass();
            }
        }
    }
}
