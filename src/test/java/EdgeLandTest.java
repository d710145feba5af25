/** Terms I and II and promises 1 to 6, sentence by sentence: the last value that is allowed, the first that is not. */
public final class EdgeLandTest {
    private static final Check CHECK = new Check();
    private static final int LEAST = Integer.MIN_VALUE;
    private static final int MOST = Integer.MAX_VALUE;

    public static void main(String[] args) {
        noProvinces();
        yearAtFirst();
        tenProvinces();
        sixteenBorders();
        thirtyEdicts();
        eightStores();
        years();
        mouths();
        need();
        provinceRefusals();
        people();
        risk();
        furtherBorder();
        borderToItself();
        borderRefusals();
        bothWays();
        guards();
        guardRefusals();
        guardWorth();
        weight();
        lastCall();
        CHECK.end();
    }

    private static void noProvinces() {
        CHECK.sentence("No PROVINCES; YEAR 0.");
        SaltFarm farm = new SaltFarm();
        CHECK.due("trouble()", farm.trouble(), 0);
        CHECK.due("fault()", farm.fault(), 0);
        CHECK.due("where()", farm.where(), -1);
        for (int what = 0; what <= 6; what++) {
            CHECK.due("count(" + what + ")", farm.count(what), 0);
        }
        CHECK.due("force(0, 0)", farm.force(0, 0), -1);
        CHECK.due("price(0, 0)", farm.price(0, 0, false), -1);
        CHECK.due("brought(0, 0)", farm.brought(0, 0), -1);
        CHECK.due("cheap(0)", farm.cheap(0), -1);
        CHECK.due("source(0)", farm.source(0), -1);
        CHECK.due("taken(0)", farm.taken(0), -1);
        CHECK.due("crown()", farm.crown(), 0);
        CHECK.due("lost()", farm.lost(), 0);
        CHECK.due("carried(0)", farm.carried(0), -1);
        CHECK.due("way(0)", farm.way(0), -1);
        CHECK.due("wayAt(0, 0)", farm.wayAt(0, 0), -1);
        CHECK.due("stand(0)", farm.stand(0), -1);
        CHECK.due("missing(0)", farm.missing(0), 0);
        CHECK.due("worst()", farm.worst(), -2);
        CHECK.refused(farm, "people(0, 1, 1)", farm.people(0, 1, 1), false, 1);
        CHECK.refused(farm, "border(0, 1, 1)", farm.border(0, 1, 1), -1, 1);
        CHECK.refused(farm, "guard(0, 1)", farm.guard(0, 1), false, 1);
        CHECK.refused(farm, "edict(0, 0, 0)", farm.edict(0, 0, 0), -1, 1);
        CHECK.refused(farm, "store(0, 1)", farm.store(0, 1), -1, 1);
        CHECK.refused(farm, "moves(0, 1)", farm.moves(0, 1, false), -1, 1);
        CHECK.refused(farm, "counted(0, 1)", farm.counted(0, 1), -1, 1);
        CHECK.granted(farm, "the first province", farm.province(1, 1), 0);
    }

    private static void yearAtFirst() {
        CHECK.sentence("YEARS 0 .. 99 (THIS one 0 at first)");
        SaltFarm farm = Farms.withProvinces(1);
        Check.tell(farm, 0, 0, "price is 3;duty is 2");
        Check.tell(farm, 0, 1, "price is 4");
        CHECK.due("count(3)", farm.count(3), 0);
        CHECK.due("cheap(0) by the edict of year 0", farm.cheap(0), 3);
        CHECK.granted(farm, "pass()", farm.pass(), 1);
        CHECK.due("cheap(0) by the edict of year 1", farm.cheap(0), 4);
    }

    private static void tenProvinces() {
        CHECK.sentence("PROVINCES 10");
        SaltFarm farm = new SaltFarm();
        for (int i = 0; i < 10; i++) {
            CHECK.due("taken(" + i + ") ahead of it", farm.taken(i), -1);
            CHECK.granted(farm, "province " + i, farm.province(i, i), i);
            CHECK.due("taken(" + i + ") behind it", farm.taken(i), 0);
            CHECK.due("count(0)", farm.count(0), i + 1);
        }
        CHECK.refused(farm, "an 11th", farm.province(1, 1), -1, 3);
        CHECK.refused(farm, "an 11th again", farm.province(0, 0), -1, 3);
        CHECK.due("count(0)", farm.count(0), 10);
        CHECK.due("taken(9)", farm.taken(9), 0);
        CHECK.due("taken(10)", farm.taken(10), -1);
        CHECK.refused(farm, "people(10, 1, 1)", farm.people(10, 1, 1), false, 1);
        CHECK.granted(farm, "people(9, 1, 1)", farm.people(9, 1, 1));
        CHECK.granted(farm, "border(8, 9, 1)", farm.border(8, 9, 1), 0);
    }

    private static void sixteenBorders() {
        CHECK.sentence("BORDERS 16");
        SaltFarm farm = Farms.withPrices(500, 0);
        for (int i = 0; i < 16; i++) {
            CHECK.due("carried(" + i + ") ahead of it", farm.carried(i), -1);
            CHECK.granted(farm, "border " + i, farm.border(i % 2, 1 - i % 2, 100 - i), i);
            CHECK.due("carried(" + i + ") behind it", farm.carried(i), 50);
            CHECK.due("count(1)", farm.count(1), i + 1);
        }
        CHECK.refused(farm, "a 17th", farm.border(0, 1, 1), -1, 3);
        CHECK.refused(farm, "a 17th again", farm.border(1, 0, 500), -1, 3);
        CHECK.due("count(1)", farm.count(1), 16);
        CHECK.due("brought(1, 0) not over the 17th", farm.brought(1, 0), 85);
        CHECK.due("carried(16)", farm.carried(16), -1);
        CHECK.refused(farm, "guard(16, 1)", farm.guard(16, 1), false, 1);
        CHECK.granted(farm, "guard(15, 9)", farm.guard(15, 9));
        CHECK.due("carried(15) with guards", farm.carried(15), 0);
        CHECK.due("carried(14)", farm.carried(14), 50);
    }

    private static void thirtyEdicts() {
        CHECK.sentence("EDICTS 30");
        SaltFarm farm = Farms.withProvinces(2);
        for (int i = 0; i < 30; i++) {
            CHECK.granted(farm, "edict " + i, Check.tell(farm, i % 2, 5, "price is " + i), i);
            CHECK.due("count(2)", farm.count(2), i + 1);
            CHECK.due("force", farm.force(i % 2, 5), i);
        }
        CHECK.refused(farm, "a 31st", Check.tell(farm, 0, 5, "price is 99"), -1, 3);
        CHECK.refused(farm, "a 31st again", Check.tell(farm, 1, 0, "price is 99"), -1, 3);
        CHECK.due("count(2)", farm.count(2), 30);
        CHECK.due("force(0, 5)", farm.force(0, 5), 28);
        CHECK.due("force(1, 5)", farm.force(1, 5), 29);
        CHECK.due("force(1, 4)", farm.force(1, 4), -2);
        CHECK.due("price(0, 5)", farm.price(0, 5, false), 28);
        CHECK.due("price(1, 5)", farm.price(1, 5, false), 29);
    }

    private static void eightStores() {
        CHECK.sentence("STORES 8");
        SaltFarm farm = Farms.withProvinces(1);
        for (int i = 0; i < 8; i++) {
            CHECK.refused(farm, "moves ahead of store " + i, farm.moves(i, 1, false), -1, 1);
            CHECK.granted(farm, "store " + i, farm.store(0, i), i);
            CHECK.granted(farm, "moves behind it", farm.moves(i, 1, false), 1);
            CHECK.due("count(4)", farm.count(4), i + 1);
        }
        CHECK.refused(farm, "a ninth", farm.store(0, 5), -1, 3);
        CHECK.refused(farm, "a ninth again", farm.store(0, 0), -1, 3);
        CHECK.due("count(4)", farm.count(4), 8);
        CHECK.refused(farm, "counted(8, 0)", farm.counted(8, 0), -1, 1);
        for (int i = 0; i < 8; i++) {
            CHECK.granted(farm, "counted(" + i + ", 0)", farm.counted(i, 0), i + 1);
        }
        CHECK.granted(farm, "pass(), no ninth is uncounted", farm.pass(), 1);
    }

    private static void years() {
        CHECK.sentence("YEARS 0 .. 99");
        SaltFarm farm = Farms.withProvinces(1);
        Check.feed(farm, "price is year+1");
        int[] wrong = {LEAST, -2, -1, 100, 101, MOST};
        for (int year : wrong) {
            CHECK.refused(farm, "edict(0, " + year + ", 15)", farm.edict(0, year, 15), -1, 2);
            CHECK.due("force(0, " + year + ")", farm.force(0, year), -1);
            CHECK.due("price(0, " + year + ")", farm.price(0, year, false), -1);
            CHECK.due("duty(0, " + year + ")", farm.price(0, year, true), -1);
        }
        CHECK.granted(farm, "edict(0, 99, 15)", farm.edict(0, 99, 15), 0);
        CHECK.due("force(0, 0)", farm.force(0, 0), -2);
        CHECK.due("force(0, 98)", farm.force(0, 98), -2);
        CHECK.due("force(0, 99)", farm.force(0, 99), 0);
        CHECK.due("price(0, 98)", farm.price(0, 98, false), 0);
        CHECK.due("price(0, 99)", farm.price(0, 99, false), 100);
        CHECK.granted(farm, "an edict of year 0", Check.tell(farm, 0, 0, "price is year+1"), 1);
        CHECK.due("force(0, 0)", farm.force(0, 0), 1);
        CHECK.due("price(0, 0)", farm.price(0, 0, false), 1);
    }

    private static void mouths() {
        CHECK.sentence("MOUTHS (0 .. 100,000)");
        int[] wrong = {LEAST, -100_000, -1, 100_001, MOST};
        SaltFarm farm = new SaltFarm();
        for (int mouths : wrong) {
            CHECK.refused(farm, "province(" + mouths + ", 5)", farm.province(mouths, 5), -1, 2);
        }
        CHECK.due("count(0)", farm.count(0), 0);
        CHECK.granted(farm, "province(0, 5)", farm.province(0, 5), 0);
        CHECK.granted(farm, "province(100000, 5)", farm.province(100_000, 5), 1);
        Check.tell(farm, 0, 0, "price is mouths/200+1");
        Check.tell(farm, 1, 0, "price is mouths/200+1");
        CHECK.due("taken(0)", farm.taken(0), 0);
        CHECK.due("taken(1)", farm.taken(1), 100_000L * 5 * 501);
        for (int mouths : wrong) {
            CHECK.refused(farm, "people(1, " + mouths + ", 5)", farm.people(1, mouths, 5), false, 2);
        }
        CHECK.due("taken(1) stays", farm.taken(1), 100_000L * 5 * 501);
        CHECK.granted(farm, "people(1, 0, 5)", farm.people(1, 0, 5));
        CHECK.due("taken(1)", farm.taken(1), 0);
        CHECK.due("price(1, 0)", farm.price(1, 0, false), 1);
        CHECK.granted(farm, "people(1, 100000, 5)", farm.people(1, 100_000, 5));
        CHECK.due("taken(1)", farm.taken(1), 100_000L * 5 * 501);
    }

    private static void need() {
        CHECK.sentence("NEED (0 .. 50 pounds a mouth and year)");
        int[] wrong = {LEAST, -50, -1, 51, MOST};
        SaltFarm farm = new SaltFarm();
        for (int need : wrong) {
            CHECK.refused(farm, "province(10, " + need + ")", farm.province(10, need), -1, 2);
        }
        CHECK.due("count(0)", farm.count(0), 0);
        CHECK.granted(farm, "province(10, 0)", farm.province(10, 0), 0);
        CHECK.granted(farm, "province(10, 50)", farm.province(10, 50), 1);
        Check.tell(farm, 0, 0, "price is need+1");
        Check.tell(farm, 1, 0, "price is need+1");
        CHECK.due("taken(0)", farm.taken(0), 0);
        CHECK.due("taken(1)", farm.taken(1), 500 * 51);
        for (int need : wrong) {
            CHECK.refused(farm, "people(1, 10, " + need + ")", farm.people(1, 10, need), false, 2);
        }
        CHECK.due("taken(1) stays", farm.taken(1), 500 * 51);
        CHECK.granted(farm, "people(1, 10, 0)", farm.people(1, 10, 0));
        CHECK.due("taken(1)", farm.taken(1), 0);
        CHECK.due("price(1, 0)", farm.price(1, 0, false), 1);
        CHECK.granted(farm, "people(1, 10, 50)", farm.people(1, 10, 50));
        CHECK.due("taken(1)", farm.taken(1), 500 * 51);
    }

    private static void provinceRefusals() {
        CHECK.sentence("A PROVINCE: its number. NONE: 2; 3.");
        SaltFarm farm = Farms.withProvinces(10);
        CHECK.refused(farm, "full, and a wrong number of mouths", farm.province(100_001, 1), -1, 2);
        CHECK.refused(farm, "full, and a wrong need", farm.province(1, 51), -1, 2);
        CHECK.refused(farm, "full", farm.province(1, 50), -1, 3);
    }

    private static void people() {
        CHECK.sentence("MOUTHS and NEED of a PROVINCE become these: true; false: 1; 2.");
        SaltFarm farm = new SaltFarm();
        farm.province(10, 20);
        farm.province(30, 40);
        Check.tell(farm, 0, 0, "price is mouths;duty is need");
        Check.tell(farm, 1, 0, "price is mouths;duty is need");
        int[] wrong = {LEAST, -1, 2, 10, MOST};
        for (int province : wrong) {
            CHECK.refused(farm, "people(" + province + ", 1, 1)", farm.people(province, 1, 1), false, 1);
            CHECK.refused(farm, "people(" + province + ", -1, 51)", farm.people(province, -1, 51), false, 1);
        }
        CHECK.refused(farm, "people(0, 5, 51): both or none", farm.people(0, 5, 51), false, 2);
        CHECK.refused(farm, "people(0, -1, 5): both or none", farm.people(0, -1, 5), false, 2);
        CHECK.due("price(0, 0)", farm.price(0, 0, false), 10);
        CHECK.due("duty(0, 0)", farm.price(0, 0, true), 20);
        CHECK.granted(farm, "people(1, 11, 12)", farm.people(1, 11, 12));
        CHECK.due("price(1, 0)", farm.price(1, 0, false), 11);
        CHECK.due("duty(1, 0)", farm.price(1, 0, true), 12);
        CHECK.due("price(0, 0) of the other", farm.price(0, 0, false), 10);
        CHECK.due("duty(0, 0) of the other", farm.price(0, 0, true), 20);
        CHECK.due("count(0)", farm.count(0), 2);
    }

    private static void risk() {
        CHECK.sentence("RISK (1 .. 500 pence a pound)");
        SaltFarm farm = Farms.withProvinces(3);
        int[] wrong = {LEAST, -500, -1, 0, 501, MOST};
        for (int risk : wrong) {
            CHECK.refused(farm, "border(0, 1, " + risk + ")", farm.border(0, 1, risk), -1, 2);
        }
        CHECK.due("count(1)", farm.count(1), 0);
        CHECK.due("brought(0, 1)", farm.brought(0, 1), -2);
        CHECK.granted(farm, "border(0, 1, 1)", farm.border(0, 1, 1), 0);
        CHECK.granted(farm, "border(1, 2, 500)", farm.border(1, 2, 500), 1);
        CHECK.due("brought(0, 1)", farm.brought(0, 1), 1);
        CHECK.due("brought(1, 2)", farm.brought(1, 2), 500);
        CHECK.due("brought(0, 2)", farm.brought(0, 2), 501);
    }

    private static void furtherBorder() {
        CHECK.sentence("A BORDER between two PROVINCES (also a further one): its number.");
        SaltFarm farm = Farms.withProvinces(2);
        CHECK.granted(farm, "border(0, 1, 9)", farm.border(0, 1, 9), 0);
        CHECK.granted(farm, "the same once more", farm.border(0, 1, 9), 1);
        CHECK.granted(farm, "the other way round", farm.border(1, 0, 9), 2);
        CHECK.due("count(1)", farm.count(1), 3);
        CHECK.granted(farm, "guard(0, 1)", farm.guard(0, 1));
        CHECK.due("brought(0, 1) by a further one", farm.brought(0, 1), 9);
        farm.guard(1, 2);
        farm.guard(2, 3);
        CHECK.due("brought(0, 1) by the first", farm.brought(0, 1), 19);
        CHECK.due("count(6)", farm.count(6), 6);
    }

    private static void borderToItself() {
        CHECK.sentence("NONE: 1 (also of one and itself); 2; 3.");
        SaltFarm farm = Farms.withProvinces(10);
        for (int i = 0; i < 10; i++) {
            CHECK.refused(farm, "border(" + i + ", " + i + ", 5)", farm.border(i, i, 5), -1, 1);
        }
        CHECK.refused(farm, "border(3, 3, 0)", farm.border(3, 3, 0), -1, 1);
        CHECK.due("count(1)", farm.count(1), 0);
    }

    private static void borderRefusals() {
        CHECK.sentence("NONE: 1 (also of one and itself); 2; 3.");
        SaltFarm farm = Farms.withProvinces(2);
        int[] wrong = {LEAST, -1, 2, 10, MOST};
        for (int province : wrong) {
            CHECK.refused(farm, "border(0, " + province + ", 5)", farm.border(0, province, 5), -1, 1);
            CHECK.refused(farm, "border(" + province + ", 0, 5)", farm.border(province, 0, 5), -1, 1);
            CHECK.refused(farm, "border(" + province + ", 1, 0)", farm.border(province, 1, 0), -1, 1);
            CHECK.refused(farm, "border of two such", farm.border(province, province, 501), -1, 1);
        }
        CHECK.due("count(1)", farm.count(1), 0);
        for (int i = 0; i < 16; i++) {
            farm.border(0, 1, 5);
        }
        CHECK.refused(farm, "full, and none such", farm.border(0, 2, 5), -1, 1);
        CHECK.refused(farm, "full, and itself", farm.border(1, 1, 5), -1, 1);
        CHECK.refused(farm, "full, and a wrong risk", farm.border(0, 1, 501), -1, 2);
        CHECK.refused(farm, "full", farm.border(0, 1, 500), -1, 3);
    }

    private static void bothWays() {
        CHECK.sentence("It is alike both ways.");
        SaltFarm farm = Farms.withPrices(100, 100);
        farm.border(1, 0, 30);
        farm.guard(0, 2);
        CHECK.due("brought(0, 1)", farm.brought(0, 1), 150);
        CHECK.due("brought(1, 0)", farm.brought(1, 0), 150);
        Check.tell(farm, 0, 0, "price is 9");
        CHECK.due("carried(0) one way", farm.carried(0), 50);
        CHECK.due("wayAt(1, 0)", farm.wayAt(1, 0), 0);
        Check.tell(farm, 0, 0, "price is 900");
        CHECK.due("carried(0) the other way", farm.carried(0), 50);
        CHECK.due("wayAt(0, 0)", farm.wayAt(0, 0), 0);
    }

    private static void guards() {
        CHECK.sentence("GUARDS (0 .. 9)");
        SaltFarm farm = Farms.withProvinces(2);
        farm.border(0, 1, 7);
        CHECK.due("brought(0, 1), none at first", farm.brought(0, 1), 7);
        CHECK.granted(farm, "guard(0, 9)", farm.guard(0, 9));
        CHECK.due("brought(0, 1)", farm.brought(0, 1), 97);
        int[] wrong = {LEAST, -9, -1, 10, MOST};
        for (int guards : wrong) {
            CHECK.refused(farm, "guard(0, " + guards + ")", farm.guard(0, guards), false, 2);
        }
        CHECK.due("brought(0, 1) stays", farm.brought(0, 1), 97);
        CHECK.due("count(6)", farm.count(6), 9);
        CHECK.granted(farm, "guard(0, 0)", farm.guard(0, 0));
        CHECK.due("brought(0, 1)", farm.brought(0, 1), 7);
        CHECK.due("count(6)", farm.count(6), 0);
    }

    private static void guardRefusals() {
        CHECK.sentence("GUARDS of a BORDER: true; false: 1; 2.");
        SaltFarm farm = Farms.withProvinces(2);
        farm.border(0, 1, 7);
        farm.border(0, 1, 70);
        int[] wrong = {LEAST, -1, 2, 16, MOST};
        for (int border : wrong) {
            CHECK.refused(farm, "guard(" + border + ", 1)", farm.guard(border, 1), false, 1);
            CHECK.refused(farm, "guard(" + border + ", 10)", farm.guard(border, 10), false, 1);
        }
        CHECK.due("count(6)", farm.count(6), 0);
        CHECK.granted(farm, "guard(1, 4)", farm.guard(1, 4));
        CHECK.granted(farm, "guard(1, 3): in their place", farm.guard(1, 3));
        CHECK.due("count(6)", farm.count(6), 3);
        CHECK.due("brought(0, 1) over the other", farm.brought(0, 1), 7);
    }

    private static void guardWorth() {
        CHECK.sentence("each worth WEIGHT (0 .. 200; 10 at first) pence more");
        SaltFarm farm = Farms.withProvinces(2);
        farm.border(0, 1, 500);
        for (int guards = 0; guards <= 9; guards++) {
            farm.guard(0, guards);
            CHECK.due("brought(0, 1) with " + guards, farm.brought(0, 1), 500 + 10 * guards);
        }
        farm.weight(200);
        CHECK.due("brought(0, 1), the dearest border", farm.brought(0, 1), 2300);
        farm.weight(1);
        CHECK.due("brought(0, 1)", farm.brought(0, 1), 509);
    }

    private static void weight() {
        CHECK.sentence("WEIGHT becomes it: true; false (2).");
        SaltFarm farm = Farms.withProvinces(2);
        farm.border(0, 1, 1);
        farm.guard(0, 1);
        int[] wrong = {LEAST, -1, 201, MOST};
        for (int weight : wrong) {
            CHECK.refused(farm, "weight(" + weight + ")", farm.weight(weight), false, 2);
        }
        CHECK.due("brought(0, 1): 10 as at first", farm.brought(0, 1), 11);
        CHECK.granted(farm, "weight(200)", farm.weight(200));
        CHECK.due("brought(0, 1)", farm.brought(0, 1), 201);
        CHECK.granted(farm, "weight(0)", farm.weight(0));
        CHECK.due("brought(0, 1)", farm.brought(0, 1), 1);
        CHECK.refused(farm, "weight(201)", farm.weight(201), false, 2);
        CHECK.due("brought(0, 1) stays", farm.brought(0, 1), 1);
    }

    private static void lastCall() {
        CHECK.sentence("An object is used for at most 512 calls after it has been made");
        SaltFarm farm = new SaltFarm();
        CHECK.due("call 1", farm.province(1, 1), 0);
        CHECK.due("call 2", farm.province(1, 1), 1);
        CHECK.due("call 3", farm.border(0, 1, 1), 0);
        for (int call = 4; call < 512; call++) {
            CHECK.due("call " + call, farm.guard(0, call % 10), true);
        }
        CHECK.due("call 512", farm.brought(0, 1), 11);
    }
}
