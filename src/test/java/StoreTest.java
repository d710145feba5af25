/** Promises 24 to 31: years, stores, counts, trouble. */
public final class StoreTest {
    private static final Check CHECK = new Check();

    public static void main(String[] args) {
        pass();
        store();
        moves();
        counted();
        missing();
        worst();
        count();
        trouble();
        CHECK.end();
    }

    private static void pass() {
        CHECK.promise("24");
        SaltFarm farm = new SaltFarm();
        for (int year = 1; year <= 99; year++) {
            CHECK.refused(farm, "pass()", farm.pass(), year, 0);
        }
        CHECK.refused(farm, "pass() beyond 99", farm.pass(), -1, 2);
        CHECK.due("count(3)", farm.count(3), 99);
        farm.province(1, 1);
        farm.store(0, 1);
        CHECK.refused(farm, "pass() uncounted, beyond 99", farm.pass(), -1, 5);
        farm.counted(0, 1);
        CHECK.refused(farm, "pass() beyond 99", farm.pass(), -1, 2);

        farm = new SaltFarm();
        farm.province(1, 1);
        farm.store(0, 1);
        farm.store(0, 2);
        farm.counted(1, 0);
        CHECK.refused(farm, "pass() with one uncounted", farm.pass(), -1, 5);
        CHECK.due("missing(1)", farm.missing(1), 0);
        CHECK.due("count(3)", farm.count(3), 0);
        farm.counted(0, 0);
        CHECK.refused(farm, "pass()", farm.pass(), 1, 0);
        CHECK.refused(farm, "pass() counted a year ahead", farm.pass(), -1, 5);
    }

    private static void store() {
        CHECK.promise("25");
        SaltFarm farm = new SaltFarm();
        CHECK.refused(farm, "store(0, -1)", farm.store(0, -1), -1, 1);
        farm.province(1, 1);
        CHECK.refused(farm, "store(-1, 0)", farm.store(-1, 0), -1, 1);
        CHECK.refused(farm, "store(0, -1)", farm.store(0, -1), -1, 2);
        CHECK.refused(farm, "store(0, 1000001)", farm.store(0, 1_000_001), -1, 2);
        CHECK.refused(farm, "store(0, 1000000)", farm.store(0, 1_000_000), 0, 0);
        CHECK.due("counted(0, 1)", farm.counted(0, 1), 999_999);
        for (int i = 1; i < 8; i++) {
            CHECK.due("store(0, 0)", farm.store(0, 0), i);
        }
        CHECK.refused(farm, "a ninth", farm.store(0, 0), -1, 3);
        CHECK.refused(farm, "a ninth with a wrong number", farm.store(0, -1), -1, 2);
        CHECK.due("count(4)", farm.count(4), 8);
    }

    private static void moves() {
        CHECK.promise("26");
        SaltFarm farm = new SaltFarm();
        CHECK.refused(farm, "moves(0, 0)", farm.moves(0, 0, true), -1, 1);
        farm.province(1, 1);
        farm.store(0, 10);
        CHECK.refused(farm, "moves(1, 5)", farm.moves(1, 5, true), -1, 1);
        CHECK.refused(farm, "moves(-1, 5)", farm.moves(-1, 5, false), -1, 1);
        CHECK.refused(farm, "moves(0, 0)", farm.moves(0, 0, false), -1, 2);
        CHECK.refused(farm, "moves(0, -5)", farm.moves(0, -5, true), -1, 2);
        CHECK.refused(farm, "moves(0, 1000001)", farm.moves(0, 1_000_001, true), -1, 2);
        CHECK.refused(farm, "brought", farm.moves(0, 1_000_000, false), 1_000_000, 0);
        CHECK.due("brought", farm.moves(0, 1, false), 1_000_001);
        CHECK.due("sold", farm.moves(0, 30, true), 30);
        CHECK.due("sold", farm.moves(0, 5, true), 35);
        CHECK.due("counted(0, 0)", farm.counted(0, 0), 10 + 1_000_001 - 35);
        farm.pass();
        CHECK.due("brought in the next year", farm.moves(0, 2, false), 2);
        CHECK.due("sold in the next year", farm.moves(0, 3, true), 3);
    }

    private static void counted() {
        CHECK.promise("27");
        SaltFarm farm = new SaltFarm();
        CHECK.refused(farm, "counted(0, -1)", farm.counted(0, -1), -1, 1);
        farm.province(1, 1);
        farm.store(0, 100);
        CHECK.refused(farm, "counted(1, 0)", farm.counted(1, 0), -1, 1);
        CHECK.refused(farm, "counted(-1, 0)", farm.counted(-1, 0), -1, 1);
        CHECK.refused(farm, "counted(0, -1)", farm.counted(0, -1), -1, 2);
        CHECK.refused(farm, "counted(0, 1000000001)", farm.counted(0, 1_000_000_001), -1, 2);
        CHECK.refused(farm, "pass()", farm.pass(), -1, 5);
        CHECK.refused(farm, "counted(0, 101), missing -1", farm.counted(0, 101), -1, 0);
        CHECK.refused(farm, "counted(0, 1000000000)", farm.counted(0, 1_000_000_000), 100 - 1_000_000_000, 0);
        CHECK.due("counted(0, 60)", farm.counted(0, 60), 40);
        farm.moves(0, 15, true);
        CHECK.due("counted(0, 60)", farm.counted(0, 60), 25);
        farm.pass();
        CHECK.due("counted(0, 0), had what was counted", farm.counted(0, 0), 60);
    }

    private static void missing() {
        CHECK.promise("28");
        SaltFarm farm = new SaltFarm();
        CHECK.due("missing(0)", farm.missing(0), 0);
        farm.province(1, 1);
        farm.store(0, 100);
        farm.weight(201);
        CHECK.due("missing(-1)", farm.missing(-1), 0);
        CHECK.due("missing(1)", farm.missing(1), 0);
        CHECK.due("trouble() stays", farm.trouble(), 2);
        farm.counted(0, 70);
        CHECK.due("missing(0) while the year lasts", farm.missing(0), 0);
        farm.moves(0, 5, true);
        farm.moves(0, 1, false);
        farm.pass();
        CHECK.due("missing(0) with what was moved behind the count", farm.missing(0), 26);
        farm.counted(0, 80);
        farm.pass();
        CHECK.due("missing(0)", farm.missing(0), 16);
        farm.counted(0, 1_000_000_000);
        farm.pass();
        CHECK.due("missing(0)", farm.missing(0), 96 - 1_000_000_000);
        farm.counted(0, 0);
        farm.pass();
        CHECK.due("missing(0)", farm.missing(0), 96);
    }

    private static void worst() {
        CHECK.promise("29");
        SaltFarm farm = new SaltFarm();
        farm.province(1, 1);
        for (int i = 0; i < 4; i++) {
            farm.store(0, 100);
        }
        count4(farm, 100, 105, 100, 100);
        CHECK.due("worst() while the year lasts", farm.worst(), -2);
        farm.pass();
        CHECK.due("worst(), none missing", farm.worst(), -2);
        count4(farm, 100, 100, 90, 90);
        CHECK.due("worst() while the year lasts", farm.worst(), -2);
        farm.pass();
        CHECK.due("worst(), of as many the least", farm.worst(), 2);
        count4(farm, 100, 90, 90, 89);
        farm.pass();
        CHECK.due("worst()", farm.worst(), 3);
        count4(farm, 0, 90, 90, 89);
        farm.pass();
        CHECK.due("worst()", farm.worst(), 0);
        farm = new SaltFarm();
        farm.province(1, 1);
        farm.store(0, 5);
        farm.counted(0, 4);
        farm.pass();
        CHECK.due("worst() with one pound", farm.worst(), 0);
    }

    private static void count4(SaltFarm farm, int a, int b, int c, int d) {
        farm.counted(0, a);
        farm.counted(1, b);
        farm.counted(2, c);
        farm.counted(3, d);
    }

    private static void count() {
        CHECK.promise("30");
        SaltFarm farm = new SaltFarm();
        farm.province(1, 1);
        farm.province(1, 1);
        farm.province(1, 1);
        farm.border(0, 1, 5);
        farm.border(0, 2, 5);
        farm.guard(0, 4);
        farm.guard(1, 3);
        Check.tell(farm, 0, 0, "price is 1");
        for (int i = 0; i < 4; i++) {
            farm.pass();
        }
        for (int i = 0; i < 5; i++) {
            farm.store(0, 1);
        }
        Check.feed(farm, "price is 1");
        farm.weight(201);
        int[] want = {3, 2, 1, 4, 5, 20, 7};
        for (int what = 0; what < want.length; what++) {
            CHECK.due("count(" + what + ")", farm.count(what), want[what]);
        }
        CHECK.due("count(7)", farm.count(7), -1);
        CHECK.due("count(-1)", farm.count(-1), -1);
        CHECK.due("trouble() stays", farm.trouble(), 2);
    }

    /** Only calls for which the document names a trouble change it. */
    private static void trouble() {
        CHECK.promise("31");
        SaltFarm farm = new SaltFarm();
        farm.province(1, 1);
        farm.weight(201);
        for (int i = 0; i < 16; i++) {
            farm.feed(0, 0, 0, 0, 0);
        }
        farm.trouble();
        farm.fault();
        farm.where();
        farm.force(5, 0);
        farm.force(0, 0);
        farm.price(5, 0, true);
        farm.brought(0, 5);
        farm.cheap(0);
        farm.source(0);
        farm.taken(5);
        farm.crown();
        farm.lost();
        farm.carried(5);
        farm.way(0);
        farm.wayAt(0, 5);
        farm.stand(0);
        farm.missing(5);
        farm.worst();
        farm.count(9);
        CHECK.due("trouble() stays", farm.trouble(), 2);
        farm.best(0);
        CHECK.due("trouble()", farm.trouble(), 0);
        farm.pass();
        farm.edict(0, 0, 300);
        CHECK.due("trouble()", farm.trouble(), 4);
        farm.pass();
        CHECK.due("trouble()", farm.trouble(), 0);
    }
}
