/** Term V, STORES, and promises 24 to 30, sentence by sentence. */
public final class EdgeStoreTest {
    private static final Check CHECK = new Check();
    private static final int LEAST = Integer.MIN_VALUE;
    private static final int MOST = Integer.MAX_VALUE;

    public static void main(String[] args) {
        nextYear();
        beyondTheLast();
        notCounted();
        eightNotCounted();
        notCountedAndBeyond();
        had();
        storeRefusals();
        pounds();
        boughtAndSoldApart();
        movesRefusals();
        beyondInTheYear();
        movesOfTheYear();
        counted();
        inPlaceOfWhatWas();
        byWhatWasMoved();
        belowZero();
        countedRefusals();
        hadOfTheNextYear();
        greatCounts();
        missing();
        missingNone();
        movedBehindTheCount();
        worst();
        worstOfAsMany();
        worstNone();
        count();
        countNone();
        CHECK.end();
    }

    private static SaltFarm farmWithStores(int... had) {
        SaltFarm farm = Farms.withProvinces(1);
        for (int pounds : had) {
            farm.store(0, pounds);
        }
        return farm;
    }

    private static void countAll(SaltFarm farm, int... pounds) {
        for (int i = 0; i < pounds.length; i++) {
            farm.counted(i, pounds[i]);
        }
    }

    private static void nextYear() {
        CHECK.sentence("NEXT YEAR: which one it is.");
        SaltFarm farm = new SaltFarm();
        CHECK.granted(farm, "pass()", farm.pass(), 1);
        CHECK.due("count(3)", farm.count(3), 1);
        CHECK.granted(farm, "pass()", farm.pass(), 2);
        CHECK.due("count(3)", farm.count(3), 2);
    }

    private static void beyondTheLast() {
        CHECK.sentence("NONE: 5 (some STORE isn't COUNTED), 2 (beyond 99).");
        SaltFarm farm = new SaltFarm();
        for (int year = 1; year <= 99; year++) {
            CHECK.granted(farm, "pass()", farm.pass(), year);
        }
        CHECK.refused(farm, "pass()", farm.pass(), -1, 2);
        CHECK.refused(farm, "pass() again", farm.pass(), -1, 2);
        CHECK.due("count(3)", farm.count(3), 99);
    }

    private static void notCounted() {
        CHECK.sentence("NONE: 5 (some STORE isn't COUNTED), 2 (beyond 99).");
        SaltFarm farm = farmWithStores(5);
        CHECK.refused(farm, "pass()", farm.pass(), -1, 5);
        CHECK.due("count(3)", farm.count(3), 0);
        farm.moves(0, 5, true);
        CHECK.refused(farm, "pass() with moves alone", farm.pass(), -1, 5);
        farm.counted(0, -1);
        CHECK.refused(farm, "pass() behind a refused count", farm.pass(), -1, 5);
        farm.counted(0, 0);
        CHECK.granted(farm, "pass() with a count of 0", farm.pass(), 1);
        CHECK.refused(farm, "pass(): the count was of the year ahead", farm.pass(), -1, 5);
        CHECK.due("count(3)", farm.count(3), 1);
        farm.counted(0, 0);
        CHECK.granted(farm, "pass()", farm.pass(), 2);
    }

    private static void eightNotCounted() {
        CHECK.sentence("5 (some STORE isn't COUNTED)");
        for (int uncounted = 0; uncounted < 8; uncounted++) {
            SaltFarm farm = farmWithStores(1, 2, 3, 4, 5, 6, 7, 8);
            for (int i = 0; i < 8; i++) {
                if (i != uncounted) {
                    farm.counted(i, 0);
                }
            }
            CHECK.refused(farm, "pass() without a count of " + uncounted, farm.pass(), -1, 5);
            for (int i = 0; i < 8; i++) {
                CHECK.due("missing(" + i + ") behind the refusal", farm.missing(i), 0);
            }
            farm.counted(uncounted, 0);
            CHECK.granted(farm, "pass()", farm.pass(), 1);
            CHECK.due("missing(7)", farm.missing(7), 8);
        }
    }

    private static void notCountedAndBeyond() {
        CHECK.sentence("NONE: 5 (some STORE isn't COUNTED), 2 (beyond 99).");
        SaltFarm farm = Farms.withProvinces(1);
        for (int year = 0; year < 98; year++) {
            farm.pass();
        }
        farm.store(0, 9);
        farm.counted(0, 4);
        CHECK.granted(farm, "pass()", farm.pass(), 99);
        CHECK.refused(farm, "pass(), 5 ahead of 2", farm.pass(), -1, 5);
        farm.counted(0, 3);
        CHECK.refused(farm, "pass()", farm.pass(), -1, 2);
        CHECK.due("missing(0): year 99 is not past", farm.missing(0), 5);
        CHECK.granted(farm, "counted(0, 4), the year goes on", farm.counted(0, 4), 0);
        CHECK.granted(farm, "moves(0, 1), the year goes on", farm.moves(0, 1, true), 1);
    }

    private static void had() {
        CHECK.sentence("A STORE in a PROVINCE, with what it HAD (0 .. 1,000,000): its number.");
        SaltFarm farm = Farms.withProvinces(2);
        int[] wrong = {LEAST, -1, 1_000_001, 1_000_000_000, MOST};
        for (int pounds : wrong) {
            CHECK.refused(farm, "store(0, " + pounds + ")", farm.store(0, pounds), -1, 2);
        }
        CHECK.due("count(4)", farm.count(4), 0);
        CHECK.granted(farm, "store(0, 0)", farm.store(0, 0), 0);
        CHECK.granted(farm, "store(1, 1000000)", farm.store(1, 1_000_000), 1);
        CHECK.granted(farm, "store(1, 7), a further one there", farm.store(1, 7), 2);
        CHECK.granted(farm, "counted(0, 0)", farm.counted(0, 0), 0);
        CHECK.granted(farm, "counted(1, 0)", farm.counted(1, 0), 1_000_000);
        CHECK.granted(farm, "counted(2, 0)", farm.counted(2, 0), 7);
    }

    private static void storeRefusals() {
        CHECK.sentence("with what it HAD (0 .. 1,000,000): its number. NONE: 1; 2; 3.");
        SaltFarm farm = Farms.withProvinces(2);
        int[] wrong = {LEAST, -1, 2, 10, MOST};
        for (int province : wrong) {
            CHECK.refused(farm, "store(" + province + ", 1)", farm.store(province, 1), -1, 1);
            CHECK.refused(farm, "store(" + province + ", -1)", farm.store(province, -1), -1, 1);
        }
        for (int i = 0; i < 8; i++) {
            farm.store(i % 2, 1);
        }
        CHECK.refused(farm, "full, and none such", farm.store(2, 1), -1, 1);
        CHECK.refused(farm, "full, and a wrong number", farm.store(1, 1_000_001), -1, 2);
        CHECK.refused(farm, "full", farm.store(1, 1_000_000), -1, 3);
        CHECK.due("count(4)", farm.count(4), 8);
    }

    private static void pounds() {
        CHECK.sentence("So much (1 .. 1,000,000) is BROUGHT to a STORE, or SOLD: how much was THIS YEAR.");
        int[] wrong = {LEAST, -1_000_000, -1, 0, 1_000_001, 1_000_000_000, MOST};
        for (int kind = 0; kind < 2; kind++) {
            boolean sold = kind == 1;
            SaltFarm farm = farmWithStores(0);
            for (int pounds : wrong) {
                CHECK.refused(farm, "moves(0, " + pounds + ", " + sold + ")", farm.moves(0, pounds, sold), -1, 2);
            }
            CHECK.granted(farm, "moves(0, 1, " + sold + ")", farm.moves(0, 1, sold), 1);
            CHECK.granted(farm, "moves(0, 1000000, " + sold + ")", farm.moves(0, 1_000_000, sold), 1_000_001);
            CHECK.refused(farm, "moves(0, 0, " + sold + ")", farm.moves(0, 0, sold), -1, 2);
            CHECK.granted(farm, "moves(0, 2, " + sold + ")", farm.moves(0, 2, sold), 1_000_003);
        }
    }

    private static void boughtAndSoldApart() {
        CHECK.sentence("is BROUGHT to a STORE, or SOLD: how much was THIS YEAR.");
        SaltFarm farm = farmWithStores(50, 60);
        CHECK.granted(farm, "brought", farm.moves(0, 10, false), 10);
        CHECK.granted(farm, "sold", farm.moves(0, 7, true), 7);
        CHECK.granted(farm, "brought", farm.moves(0, 5, false), 15);
        CHECK.granted(farm, "sold, more than there is", farm.moves(0, 1000, true), 1007);
        CHECK.granted(farm, "brought to the other", farm.moves(1, 3, false), 3);
        CHECK.granted(farm, "sold at the other", farm.moves(1, 4, true), 4);
        CHECK.granted(farm, "counted(0, 0)", farm.counted(0, 0), 50 + 15 - 1007);
        CHECK.granted(farm, "counted(1, 0)", farm.counted(1, 0), 60 + 3 - 4);
    }

    private static void movesRefusals() {
        CHECK.sentence("NONE: 1; 2 (also beyond 1,000,000,000 in the YEAR).");
        SaltFarm farm = farmWithStores(1, 2);
        int[] wrong = {LEAST, -1, 2, 8, MOST};
        for (int store : wrong) {
            CHECK.refused(farm, "moves(" + store + ", 1, false)", farm.moves(store, 1, false), -1, 1);
            CHECK.refused(farm, "moves(" + store + ", 0, true)", farm.moves(store, 0, true), -1, 1);
        }
        CHECK.granted(farm, "counted(0, 0)", farm.counted(0, 0), 1);
        CHECK.granted(farm, "counted(1, 0)", farm.counted(1, 0), 2);
    }

    /** It takes more than the 512 calls for which an object is promised: no run can need this edge, yet it holds. */
    private static void beyondInTheYear() {
        CHECK.sentence("2 (also beyond 1,000,000,000 in the YEAR)");
        for (int kind = 0; kind < 2; kind++) {
            boolean sold = kind == 1;
            SaltFarm farm = farmWithStores(0);
            for (int i = 1; i < 1000; i++) {
                farm.moves(0, 1_000_000, sold);
            }
            CHECK.granted(farm, "moves(0, 999999, " + sold + ")", farm.moves(0, 999_999, sold), 999_999_999);
            CHECK.refused(farm, "moves(0, 2, " + sold + ")", farm.moves(0, 2, sold), -1, 2);
            CHECK.refused(farm, "moves(0, 1000000, " + sold + ")", farm.moves(0, 1_000_000, sold), -1, 2);
            CHECK.granted(farm, "moves(0, 1, " + sold + ")", farm.moves(0, 1, sold), 1_000_000_000);
            CHECK.refused(farm, "moves(0, 1, " + sold + ")", farm.moves(0, 1, sold), -1, 2);
            CHECK.granted(farm, "the other kind", farm.moves(0, 1, !sold), 1);
            farm.counted(0, 0);
            farm.pass();
            CHECK.granted(farm, "moves(0, 1, " + sold + ") in the next year", farm.moves(0, 1, sold), 1);
        }
    }

    private static void movesOfTheYear() {
        CHECK.sentence("how much was THIS YEAR.");
        SaltFarm farm = farmWithStores(0);
        farm.moves(0, 10, false);
        farm.moves(0, 20, true);
        farm.pass();
        CHECK.granted(farm, "brought, the year was not passed", farm.moves(0, 1, false), 11);
        farm.counted(0, 0);
        CHECK.granted(farm, "sold behind the count", farm.moves(0, 1, true), 21);
        farm.pass();
        CHECK.granted(farm, "brought in the next year", farm.moves(0, 2, false), 2);
        CHECK.granted(farm, "sold in the next year", farm.moves(0, 3, true), 3);
    }

    private static void counted() {
        CHECK.sentence("A STORE is COUNTED (0 .. 1,000,000,000; in place of what was counted THIS YEAR)");
        SaltFarm farm = farmWithStores(100);
        int[] wrong = {LEAST, -1, 1_000_000_001, MOST};
        for (int pounds : wrong) {
            CHECK.refused(farm, "counted(0, " + pounds + ")", farm.counted(0, pounds), -1, 2);
        }
        CHECK.refused(farm, "pass(): it isn't counted", farm.pass(), -1, 5);
        CHECK.granted(farm, "counted(0, 0)", farm.counted(0, 0), 100);
        CHECK.granted(farm, "counted(0, 1000000000)", farm.counted(0, 1_000_000_000), 100 - 1_000_000_000);
        CHECK.granted(farm, "counted(0, 99)", farm.counted(0, 99), 1);
        for (int pounds : wrong) {
            CHECK.refused(farm, "counted(0, " + pounds + ")", farm.counted(0, pounds), -1, 2);
        }
        CHECK.granted(farm, "pass(): it is counted still", farm.pass(), 1);
        CHECK.due("missing(0) by the count that was taken", farm.missing(0), 1);
    }

    private static void inPlaceOfWhatWas() {
        CHECK.sentence("in place of what was counted THIS YEAR");
        SaltFarm farm = farmWithStores(100, 200);
        CHECK.granted(farm, "counted(0, 30)", farm.counted(0, 30), 70);
        CHECK.granted(farm, "counted(0, 80)", farm.counted(0, 80), 20);
        CHECK.granted(farm, "counted(0, 60)", farm.counted(0, 60), 40);
        CHECK.granted(farm, "counted(1, 199)", farm.counted(1, 199), 1);
        farm.pass();
        CHECK.due("missing(0)", farm.missing(0), 40);
        CHECK.due("missing(1)", farm.missing(1), 1);
        CHECK.granted(farm, "counted(0, 60), had the last count", farm.counted(0, 60), 0);
    }

    private static void byWhatWasMoved() {
        CHECK.sentence("its MISSING by what was moved till now (may be below 0)");
        SaltFarm farm = farmWithStores(100);
        CHECK.granted(farm, "counted(0, 100)", farm.counted(0, 100), 0);
        farm.moves(0, 30, false);
        CHECK.granted(farm, "counted(0, 100)", farm.counted(0, 100), 30);
        farm.moves(0, 10, true);
        CHECK.granted(farm, "counted(0, 100)", farm.counted(0, 100), 20);
        farm.moves(0, 0, true);
        CHECK.granted(farm, "counted(0, 100) behind a refused move", farm.counted(0, 100), 20);
    }

    private static void belowZero() {
        CHECK.sentence("(may be below 0). NONE: 1; 2 (trouble() tells).");
        SaltFarm farm = farmWithStores(100, 0);
        CHECK.granted(farm, "counted(0, 100)", farm.counted(0, 100), 0);
        CHECK.granted(farm, "counted(0, 101): -1, and not refused", farm.counted(0, 101), -1);
        CHECK.granted(farm, "counted(0, 102)", farm.counted(0, 102), -2);
        farm.moves(1, 1_000_000, true);
        CHECK.granted(farm, "counted(1, 0)", farm.counted(1, 0), -1_000_000);
        CHECK.refused(farm, "counted(0, -1): -1, refused", farm.counted(0, -1), -1, 2);
        CHECK.granted(farm, "pass()", farm.pass(), 1);
        CHECK.due("missing(0)", farm.missing(0), -2);
        CHECK.due("missing(1)", farm.missing(1), -1_000_000);
    }

    private static void countedRefusals() {
        CHECK.sentence("NONE: 1; 2 (trouble() tells).");
        SaltFarm farm = farmWithStores(1, 2);
        int[] wrong = {LEAST, -1, 2, 8, MOST};
        for (int store : wrong) {
            CHECK.refused(farm, "counted(" + store + ", 0)", farm.counted(store, 0), -1, 1);
            CHECK.refused(farm, "counted(" + store + ", -1)", farm.counted(store, -1), -1, 1);
        }
        CHECK.refused(farm, "pass()", farm.pass(), -1, 5);
    }

    private static void hadOfTheNextYear() {
        CHECK.sentence("COUNTED at its end (that is HAD of the next one)");
        SaltFarm farm = farmWithStores(100);
        farm.moves(0, 40, false);
        farm.moves(0, 20, true);
        farm.counted(0, 115);
        farm.pass();
        CHECK.granted(farm, "counted(0, 0)", farm.counted(0, 0), 115);
        farm.pass();
        CHECK.granted(farm, "counted(0, 0)", farm.counted(0, 0), 0);
        CHECK.due("missing(0)", farm.missing(0), 5 + 115);
    }

    /** The greatest sums: a count of 1,000,000,000 at one year's end, and of 0 at the next one's, over and over. */
    private static void greatCounts() {
        CHECK.sentence("MISSING: HAD and BROUGHT less SOLD less COUNTED.");
        SaltFarm farm = farmWithStores(0, 0);
        for (int year = 0; year < 99; year++) {
            boolean even = year % 2 == 0;
            int was = even ? 0 : 1_000_000_000;
            farm.moves(0, 1_000_000, true);
            int count = even ? 1_000_000_000 : 0;
            CHECK.due("counted(0) in " + year, farm.counted(0, count), was - 1_000_000 - count);
            farm.counted(1, 1_000_000_000);
            farm.moves(1, 1_000_000, false);
            farm.pass();
        }
        CHECK.due("missing(0)", farm.missing(0), -99_000_000L - 1_000_000_000L);
        CHECK.due("missing(1)", farm.missing(1), 99_000_000L - 1_000_000_000L);
    }

    private static void missing() {
        CHECK.sentence("MISSING of a STORE in all YEARS that are past; 0 for no such one.");
        SaltFarm farm = farmWithStores(100);
        CHECK.due("missing(0) at first", farm.missing(0), 0);
        farm.counted(0, 70);
        CHECK.due("missing(0) while the year lasts", farm.missing(0), 0);
        farm.pass();
        CHECK.due("missing(0)", farm.missing(0), 30);
        farm.counted(0, 50);
        CHECK.due("missing(0) while the year lasts", farm.missing(0), 30);
        farm.pass();
        CHECK.due("missing(0)", farm.missing(0), 50);
        farm.counted(0, 110);
        farm.pass();
        CHECK.due("missing(0), below 0", farm.missing(0), -10);
    }

    private static void missingNone() {
        CHECK.sentence("0 for no such one.");
        SaltFarm farm = farmWithStores(100, 100);
        countAll(farm, 10, 20);
        farm.pass();
        farm.weight(201);
        int[] wrong = {LEAST, -1, 2, 8, MOST};
        for (int store : wrong) {
            CHECK.due("missing(" + store + ")", farm.missing(store), 0);
        }
        CHECK.due("trouble() stays", farm.trouble(), 2);
        CHECK.due("missing(0)", farm.missing(0), 90);
        CHECK.due("missing(1)", farm.missing(1), 80);
    }

    private static void movedBehindTheCount() {
        CHECK.sentence("MISSING: HAD and BROUGHT less SOLD less COUNTED.");
        SaltFarm farm = farmWithStores(100);
        CHECK.granted(farm, "counted(0, 100)", farm.counted(0, 100), 0);
        farm.moves(0, 25, false);
        farm.moves(0, 5, true);
        CHECK.granted(farm, "pass(): it is counted", farm.pass(), 1);
        CHECK.due("missing(0): all that was moved in the year", farm.missing(0), 20);
        CHECK.granted(farm, "counted(0, 0)", farm.counted(0, 0), 100);
    }

    private static void worst() {
        CHECK.sentence("The STORE with the most MISSING in all YEARS that are past (of as many the least)");
        SaltFarm farm = farmWithStores(100, 100, 100);
        countAll(farm, 90, 80, 85);
        CHECK.due("worst() while the year lasts", farm.worst(), -2);
        farm.pass();
        CHECK.due("worst()", farm.worst(), 1);
        countAll(farm, 90, 80, 79);
        CHECK.due("worst() while the year lasts", farm.worst(), 1);
        farm.pass();
        CHECK.due("worst(): 10, 20, 21", farm.worst(), 2);
        countAll(farm, 68, 80, 79);
        farm.pass();
        CHECK.due("worst(): 32, 20, 21", farm.worst(), 0);
        countAll(farm, 168, 80, 79);
        farm.pass();
        CHECK.due("worst(): -68, 20, 21", farm.worst(), 2);
    }

    private static void worstOfAsMany() {
        CHECK.sentence("(of as many the least)");
        SaltFarm farm = farmWithStores(9, 9, 9, 9, 9, 9, 9, 9);
        countAll(farm, 9, 9, 8, 8, 8, 8, 8, 8);
        farm.pass();
        CHECK.due("worst()", farm.worst(), 2);
        countAll(farm, 9, 8, 8, 8, 8, 8, 8, 8);
        farm.pass();
        CHECK.due("worst()", farm.worst(), 1);
        countAll(farm, 8, 8, 8, 8, 8, 8, 8, 8);
        farm.pass();
        CHECK.due("worst()", farm.worst(), 0);
        countAll(farm, 8, 8, 8, 8, 8, 8, 8, 7);
        farm.pass();
        CHECK.due("worst()", farm.worst(), 7);
    }

    private static void worstNone() {
        CHECK.sentence("-2 if there is none or none has more than 0.");
        CHECK.due("worst() without stores", Farms.withProvinces(1).worst(), -2);
        SaltFarm farm = farmWithStores(5, 5);
        farm.weight(201);
        CHECK.due("worst() in the first year", farm.worst(), -2);
        CHECK.due("trouble() stays", farm.trouble(), 2);
        countAll(farm, 5, 6);
        farm.pass();
        CHECK.due("worst(): 0, -1", farm.worst(), -2);
        countAll(farm, 6, 7);
        farm.pass();
        CHECK.due("worst(): -1, -2", farm.worst(), -2);
        countAll(farm, 6, 4);
        farm.pass();
        CHECK.due("worst(): -1, 1", farm.worst(), 1);
        countAll(farm, 6, 5);
        farm.pass();
        CHECK.due("worst(): -1, 0", farm.worst(), -2);
    }

    private static void count() {
        CHECK.sentence("0 PROVINCES, 1 BORDERS, 2 EDICTS, 3 the YEAR, 4 STORES, 5 bytes of THE TAPE, 6 GUARDS in all.");
        SaltFarm farm = Farms.full();
        for (int i = 0; i < 16; i++) {
            farm.guard(i, 9);
        }
        int[] want = {10, 16, 30, 0, 8, 300, 144};
        for (int what = 0; what < want.length; what++) {
            CHECK.due("count(" + what + ") of a full farm", farm.count(what), want[what]);
        }
        farm.guard(15, 0);
        CHECK.due("count(6)", farm.count(6), 135);
        farm.best(3);
        CHECK.due("count(6) behind best()", farm.count(6), 135);
    }

    private static void countNone() {
        CHECK.sentence("6 GUARDS in all. NONE for others.");
        SaltFarm farm = Farms.full();
        farm.weight(201);
        int[] wrong = {LEAST, -1, 7, 8, MOST};
        for (int what : wrong) {
            CHECK.due("count(" + what + ")", farm.count(what), -1);
        }
        CHECK.due("trouble() stays", farm.trouble(), 2);
    }
}
