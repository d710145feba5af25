/** Term IV and promises 13 to 21, sentence by sentence. */
public final class EdgeMarketTest {
    private static final Check CHECK = new Check();
    private static final int LEAST = Integer.MIN_VALUE;
    private static final int MOST = Integer.MAX_VALUE;
    private static final long MOST_POUNDS = 100_000L * 50;

    public static void main(String[] args) {
        leastSum();
        longestAndDearest();
        noBordersLeadThere();
        broughtNone();
        cheap();
        itselfIfItIsOne();
        leastNumber();
        leastNumberThroughAnother();
        cheapAndSourceNone();
        rest();
        takenParts();
        takenMost();
        takenNone();
        crown();
        lost();
        lostMost();
        carried();
        carriedMost();
        carriedNone();
        waysWithOneCost();
        waysOfUnlikeLength();
        fromTheSourceOn();
        way();
        wayAt();
        thisYear();
        CHECK.end();
    }

    /** Provinces 0 .. 9, each border i joining i and i + 1. */
    private static SaltFarm chain(int risk, int... prices) {
        SaltFarm farm = Farms.withPrices(prices);
        for (int i = 0; i + 1 < prices.length; i++) {
            farm.border(i, i + 1, risk);
        }
        return farm;
    }

    private static void leastSum() {
        CHECK.sentence("PRICE of q and the least sum of RISKS (with GUARDS) of BORDERS from q to p.");
        SaltFarm farm = chain(11, 5, 0, 0, 0, 0, 0, 0, 0, 0, 7);
        farm.border(9, 0, 100);
        CHECK.due("brought(0, 9) over nine borders", farm.brought(0, 9), 5 + 99);
        CHECK.due("brought(9, 0)", farm.brought(9, 0), 7 + 99);
        farm.weight(1);
        farm.guard(4, 1);
        CHECK.due("brought(0, 9), both as dear", farm.brought(0, 9), 5 + 100);
        farm.guard(4, 2);
        CHECK.due("brought(0, 9) over one border", farm.brought(0, 9), 5 + 100);
        farm.guard(9, 3);
        CHECK.due("brought(0, 9) over nine again", farm.brought(0, 9), 5 + 101);
        CHECK.due("brought(0, 0)", farm.brought(0, 0), 5);
        CHECK.due("brought(9, 9)", farm.brought(9, 9), 7);
        CHECK.due("brought(0, 5)", farm.brought(0, 5), 5 + 57);
    }

    private static void longestAndDearest() {
        CHECK.sentence("PRICE of q and the least sum of RISKS (with GUARDS) of BORDERS from q to p.");
        SaltFarm farm = chain(500, 1000, 1000, 1000, 1000, 1000, 1000, 1000, 1000, 1000, 1000);
        farm.weight(200);
        for (int i = 0; i < 9; i++) {
            farm.guard(i, 9);
        }
        CHECK.due("brought(0, 9)", farm.brought(0, 9), 1000 + 9 * 2300);
        CHECK.due("brought(9, 0)", farm.brought(9, 0), 1000 + 9 * 2300);
        CHECK.due("cheap(9)", farm.cheap(9), 1000);
    }

    private static void noBordersLeadThere() {
        CHECK.sentence("COST of a pound from one PROVINCE in another one; -2 if no BORDERS lead there; NONE.");
        SaltFarm farm = Farms.withPrices(3, 4, 5, 6);
        CHECK.due("brought(0, 1)", farm.brought(0, 1), -2);
        CHECK.due("brought(1, 1) without borders", farm.brought(1, 1), 4);
        farm.border(0, 1, 10);
        farm.border(2, 3, 10);
        CHECK.due("brought(0, 1)", farm.brought(0, 1), 13);
        CHECK.due("brought(1, 2)", farm.brought(1, 2), -2);
        CHECK.due("brought(3, 0)", farm.brought(3, 0), -2);
        farm.border(3, 0, 10);
        CHECK.due("brought(1, 2) over three", farm.brought(1, 2), 34);
        SaltFarm free = Farms.withProvinces(2);
        free.border(0, 1, 1);
        CHECK.due("brought(0, 1) at a price of 0", free.brought(0, 1), 1);
        CHECK.due("brought(0, 0) at a price of 0", free.brought(0, 0), 0);
    }

    private static void broughtNone() {
        CHECK.sentence("-2 if no BORDERS lead there; NONE.");
        SaltFarm farm = chain(5, 3, 4);
        farm.weight(201);
        int[] wrong = {LEAST, -1, 2, 10, MOST};
        for (int province : wrong) {
            CHECK.due("brought(" + province + ", 0)", farm.brought(province, 0), -1);
            CHECK.due("brought(1, " + province + ")", farm.brought(1, province), -1);
            CHECK.due("brought of one such to itself", farm.brought(province, province), -1);
        }
        CHECK.due("trouble() stays", farm.trouble(), 2);
    }

    private static void cheap() {
        CHECK.sentence("the least of these over all PROVINCES, p itself too (its PRICE)");
        for (int own = 29; own <= 31; own++) {
            SaltFarm farm = chain(10, own, 20);
            CHECK.due("cheap(0) with a price of " + own, farm.cheap(0), Math.min(own, 30));
            CHECK.due("cheap(1)", farm.cheap(1), 20);
            CHECK.due("source(0) with a price of " + own, farm.source(0), own <= 30 ? 0 : 1);
        }
        SaltFarm alone = Farms.withPrices(1000, 0);
        CHECK.due("cheap(0) without borders", alone.cheap(0), 1000);
        CHECK.due("source(0) without borders", alone.source(0), 0);
        SaltFarm far = chain(1, 1000, 1000, 1000, 1000, 1000, 1000, 1000, 1000, 1000, 0);
        for (int i = 0; i < 10; i++) {
            CHECK.due("cheap(" + i + ")", far.cheap(i), 9 - i);
            CHECK.due("source(" + i + ")", far.source(i), 9);
        }
    }

    private static void itselfIfItIsOne() {
        CHECK.sentence("of those with the least COST p itself if it is one, else the least number.");
        SaltFarm farm = chain(10, 20, 30, 20);
        CHECK.due("source(1): itself, though 0 is as cheap", farm.source(1), 1);
        CHECK.due("way(1)", farm.way(1), 0);
        CHECK.due("cheap(1)", farm.cheap(1), 30);
        CHECK.due("taken(1)", farm.taken(1), 50 * 30);
        CHECK.due("lost()", farm.lost(), 0);
        Check.tell(farm, 1, 0, "price is 31");
        CHECK.due("source(1): the least of 0 and 2", farm.source(1), 0);
        Check.tell(farm, 0, 0, "price is 21");
        CHECK.due("source(1)", farm.source(1), 2);
        CHECK.due("lost()", farm.lost(), 50 * 11);
        SaltFarm alike = chain(1, 7, 7, 7);
        for (int i = 0; i < 3; i++) {
            CHECK.due("source(" + i + ") of three alike", alike.source(i), i);
        }
    }

    private static void leastNumber() {
        CHECK.sentence("p itself if it is one, else the least number.");
        SaltFarm farm = new SaltFarm();
        for (int i = 0; i < 10; i++) {
            farm.province(10, 5);
            Check.tell(farm, i, 0, i == 4 ? "price is 1000" : "price is " + (100 + i));
        }
        for (int i = 9; i >= 0; i--) {
            if (i != 4) {
                farm.border(4, i, 100 - i);
            }
        }
        CHECK.due("cheap(4) of nine as cheap", farm.cheap(4), 200);
        CHECK.due("source(4)", farm.source(4), 0);
        int[] next = {1, 2, 3, 5, 6, 7, 8, 9};
        int border = 8;
        for (int source : next) {
            farm.guard(border, 1);
            border--;
            CHECK.due("source(4)", farm.source(4), source);
        }
        farm.guard(0, 1);
        CHECK.due("source(4), all guarded alike", farm.source(4), 0);
        CHECK.due("cheap(4)", farm.cheap(4), 210);
    }

    private static void leastNumberThroughAnother() {
        CHECK.sentence("else the least number.");
        SaltFarm farm = chain(5, 10, 15, 90);
        CHECK.due("source(1)", farm.source(1), 1);
        CHECK.due("source(2): 0 and 1 are as cheap", farm.source(2), 0);
        CHECK.due("way(2)", farm.way(2), 2);
        CHECK.due("carried(0)", farm.carried(0), 50);
        CHECK.due("carried(1)", farm.carried(1), 50);
        farm = chain(5, 90, 15, 10);
        CHECK.due("source(0): 1 and 2 are as cheap", farm.source(0), 1);
        CHECK.due("way(0)", farm.way(0), 1);
    }

    private static void cheapAndSourceNone() {
        CHECK.sentence("CHEAP of a PROVINCE; NONE.");
        SaltFarm farm = chain(5, 3, 4);
        farm.weight(201);
        int[] wrong = {LEAST, -1, 2, 10, MOST};
        for (int province : wrong) {
            CHECK.due("cheap(" + province + ")", farm.cheap(province), -1);
        }
        CHECK.sentence("SOURCE of a PROVINCE; NONE.");
        for (int province : wrong) {
            CHECK.due("source(" + province + ")", farm.source(province), -1);
        }
        CHECK.due("trouble() stays", farm.trouble(), 2);
    }

    private static void rest() {
        CHECK.sentence("The REST of a PROVINCE: MOUTHS times what NEED is more than DUTY.");
        SaltFarm farm = chain(5, 90, 10);
        long[] rests = {50, 40, 30, 20, 10, 0, 0};
        for (int duty = 0; duty < rests.length; duty++) {
            Check.tell(farm, 0, 0, "price is 90;duty is " + duty);
            CHECK.due("carried(0) with a duty of " + duty, farm.carried(0), rests[duty]);
            CHECK.due("lost()", farm.lost(), rests[duty] * 80);
            CHECK.due("source(0)", farm.source(0), 1);
            CHECK.due("way(0)", farm.way(0), 1);
        }
        Check.tell(farm, 0, 0, "price is 90");
        farm.people(0, 0, 50);
        CHECK.due("carried(0) without mouths", farm.carried(0), 0);
        farm.people(0, 10, 0);
        CHECK.due("carried(0) without need", farm.carried(0), 0);
        CHECK.due("lost()", farm.lost(), 0);
    }

    private static void takenParts() {
        CHECK.sentence("MOUTHS times DUTY times PRICE, and its PRICE times the RESTS of all PROVINCES (it, too) whose");
        SaltFarm farm = chain(5, 90, 10, 90, 10);
        farm.guard(2, 9);
        Check.tell(farm, 0, 0, "price is 90;duty is 2");
        Check.tell(farm, 1, 0, "price is 10;duty is 1");
        CHECK.due("taken(0): its duty alone", farm.taken(0), 10 * 2 * 90);
        CHECK.due("taken(1): its duty, its rest, two rests", farm.taken(1), 10 * 10 + 10 * (40 + 30 + 50));
        CHECK.due("taken(2): nothing", farm.taken(2), 0);
        CHECK.due("taken(3): its rest", farm.taken(3), 500);
        Check.tell(farm, 1, 0, "duty is 5");
        CHECK.due("taken(1) at a price of 0", farm.taken(1), 0);
        CHECK.due("source(0)", farm.source(0), 1);
    }

    /** Ten provinces of 100,000 mouths with a need of 50, in a chain. */
    private static SaltFarm greatest(int risk, String first, String others) {
        SaltFarm farm = new SaltFarm();
        for (int i = 0; i < 10; i++) {
            farm.province(100_000, 50);
            Check.tell(farm, i, 0, i == 0 ? first : others);
            if (i > 0) {
                farm.border(i - 1, i, risk);
            }
        }
        return farm;
    }

    private static void takenMost() {
        CHECK.sentence("TAKEN of a PROVINCE; -1 for no such one.");
        SaltFarm duties = greatest(500, "price is 1000;duty is 50", "price is 1000;duty is 50");
        CHECK.due("taken(9), all of it by duty", duties.taken(9), MOST_POUNDS * 1000);
        CHECK.due("crown()", duties.crown(), 10 * MOST_POUNDS * 1000);
        SaltFarm rests = greatest(500, "price is 1000", "price is 1000");
        CHECK.due("taken(0), all of it by its rest", rests.taken(0), MOST_POUNDS * 1000);
        CHECK.due("crown()", rests.crown(), 10 * MOST_POUNDS * 1000);
        SaltFarm one = greatest(1, "price is 990", "price is 1000");
        CHECK.due("taken(0), all rests", one.taken(0), 10 * MOST_POUNDS * 990);
        CHECK.due("taken(9)", one.taken(9), 0);
        CHECK.due("crown()", one.crown(), 10 * MOST_POUNDS * 990);
    }

    private static void takenNone() {
        CHECK.sentence("TAKEN of a PROVINCE; -1 for no such one.");
        SaltFarm farm = chain(5, 3, 4);
        farm.weight(201);
        int[] wrong = {LEAST, -1, 2, 10, MOST};
        for (int province : wrong) {
            CHECK.due("taken(" + province + ")", farm.taken(province), -1);
        }
        CHECK.due("trouble() stays", farm.trouble(), 2);
        CHECK.due("taken(1)", farm.taken(1), 200);
    }

    private static void crown() {
        CHECK.sentence("The sum of TAKEN.");
        CHECK.due("crown() without provinces", new SaltFarm().crown(), 0);
        SaltFarm farm = Farms.full();
        long sum = 0;
        for (int i = 0; i < 10; i++) {
            sum += farm.taken(i);
        }
        CHECK.due("crown()", farm.crown(), sum);
        CHECK.due("crown() is more than 0", sum > 0, true);
        CHECK.due("crown() without edicts", Farms.withProvinces(3).crown(), 0);
    }

    private static void lost() {
        CHECK.sentence("over all whose SOURCE is another one: the REST times (own PRICE less the SOURCE's).");
        CHECK.due("lost() without provinces", new SaltFarm().lost(), 0);
        SaltFarm farm = chain(5, 90, 10, 40, 60);
        Check.tell(farm, 3, 0, "price is 60;duty is 4");
        CHECK.due("lost()", farm.lost(), 50 * 80 + 50 * 30 + 10 * 50);
        farm.guard(1, 9);
        CHECK.due("lost() with a guarded border", farm.lost(), 50 * 80 + 10 * 20);
        farm.guard(0, 9);
        CHECK.due("lost()", farm.lost(), 10 * 20);
        farm.guard(2, 9);
        CHECK.due("lost(), all are their own", farm.lost(), 0);
    }

    private static void lostMost() {
        CHECK.sentence("the REST times (own PRICE less the SOURCE's)");
        SaltFarm farm = greatest(1, "duty is 50", "price is 1000");
        CHECK.due("lost()", farm.lost(), 9 * MOST_POUNDS * 1000);
        CHECK.due("crown()", farm.crown(), 0);
    }

    private static void carried() {
        CHECK.sentence("CARRIED over a BORDER: pounds of RESTS that come over it by the ways of least COST");
        SaltFarm farm = chain(5, 10, 90, 90, 40);
        CHECK.due("carried(0)", farm.carried(0), 150);
        CHECK.due("carried(1)", farm.carried(1), 100);
        CHECK.due("carried(2)", farm.carried(2), 50);
        farm.guard(2, 2);
        CHECK.due("carried(2): 3 is as cheap itself", farm.carried(2), 0);
        CHECK.due("carried(0)", farm.carried(0), 100);
        farm.guard(1, 9);
        CHECK.due("carried(1)", farm.carried(1), 0);
        CHECK.due("carried(2), the other way", farm.carried(2), 50);
    }

    private static void carriedMost() {
        CHECK.sentence("CARRIED over a BORDER; -1 for no such one.");
        SaltFarm farm = greatest(1, "price is 0", "price is 1000");
        for (int i = 0; i < 9; i++) {
            CHECK.due("carried(" + i + ")", farm.carried(i), (9 - i) * MOST_POUNDS);
        }
    }

    private static void carriedNone() {
        CHECK.sentence("CARRIED over a BORDER; -1 for no such one.");
        SaltFarm farm = chain(5, 3, 90, 4);
        farm.weight(201);
        int[] wrong = {LEAST, -1, 2, 16, MOST};
        for (int border : wrong) {
            CHECK.due("carried(" + border + ")", farm.carried(border), -1);
        }
        CHECK.due("trouble() stays", farm.trouble(), 2);
        CHECK.due("carried(0)", farm.carried(0), 50);
        CHECK.due("carried(1)", farm.carried(1), 0);
    }

    private static void waysWithOneCost() {
        CHECK.sentence("of ways with one COST the one whose BORDERS, from the SOURCE on, have the least number");
        SaltFarm farm = Farms.withPrices(90, 10);
        for (int i = 0; i < 16; i++) {
            farm.border(i % 2, 1 - i % 2, 5);
        }
        for (int i = 0; i < 16; i++) {
            CHECK.due("wayAt(0, 0)", farm.wayAt(0, 0), i);
            CHECK.due("carried(" + i + ")", farm.carried(i), 50);
            CHECK.due("carried of another", farm.carried((i + 1) % 16), 0);
            farm.guard(i, 1);
        }
        CHECK.due("wayAt(0, 0), all guarded alike", farm.wayAt(0, 0), 0);
    }

    /** From 1 to 0: a way of one border, and one of three that is as dear; the first border's number decides. */
    private static void waysOfUnlikeLength() {
        CHECK.sentence("have the least number where they first differ");
        SaltFarm farm = Farms.withPrices(90, 10, 90, 90);
        farm.border(2, 3, 10);
        farm.border(1, 0, 30);
        farm.border(1, 2, 10);
        farm.border(3, 0, 10);
        CHECK.due("way(0): 1 comes ahead of 2, 0, 3", farm.way(0), 1);
        CHECK.due("wayAt(0, 0)", farm.wayAt(0, 0), 1);
        SaltFarm other = Farms.withPrices(90, 10, 90, 90);
        other.border(1, 2, 10);
        other.border(1, 0, 30);
        other.border(2, 3, 10);
        other.border(3, 0, 10);
        CHECK.due("way(0): 0, 2, 3 comes ahead of 1", other.way(0), 3);
        CHECK.due("wayAt(0, 0)", other.wayAt(0, 0), 0);
        CHECK.due("wayAt(0, 1)", other.wayAt(0, 1), 2);
        CHECK.due("wayAt(0, 2)", other.wayAt(0, 2), 3);
        CHECK.due("carried(1)", other.carried(1), 0);
        CHECK.due("carried(0)", other.carried(0), 150);
    }

    /** From 0 to 3 over 1 or 2; the first border at the source decides, not the last one, nor the least of all. */
    private static void fromTheSourceOn() {
        CHECK.sentence("from the SOURCE on, have the least number where they first differ");
        SaltFarm farm = Farms.withPrices(10, 90, 90, 90);
        farm.border(2, 3, 10);
        farm.border(0, 1, 10);
        farm.border(0, 2, 10);
        farm.border(1, 3, 10);
        CHECK.due("way(3)", farm.way(3), 2);
        CHECK.due("wayAt(3, 0): 1, 3 comes ahead of 2, 0", farm.wayAt(3, 0), 1);
        CHECK.due("wayAt(3, 1)", farm.wayAt(3, 1), 3);
        CHECK.due("carried(0)", farm.carried(0), 0);
        CHECK.due("carried(1)", farm.carried(1), 100);
        CHECK.due("carried(2)", farm.carried(2), 50);
        CHECK.due("carried(3)", farm.carried(3), 50);
        farm.border(1, 3, 10);
        CHECK.due("wayAt(3, 1): of two behind the same first", farm.wayAt(3, 1), 3);
        farm.guard(3, 1);
        CHECK.due("wayAt(3, 1)", farm.wayAt(3, 1), 4);
        farm.guard(4, 1);
        CHECK.due("wayAt(3, 0)", farm.wayAt(3, 0), 2);
        CHECK.due("wayAt(3, 1)", farm.wayAt(3, 1), 0);
    }

    private static void way() {
        CHECK.sentence("Of the way from a PROVINCE's SOURCE to it: how many BORDERS (0: it is its own SOURCE); NONE.");
        SaltFarm farm = greatest(1, "price is 0", "price is 1000");
        for (int i = 0; i < 10; i++) {
            CHECK.due("way(" + i + ")", farm.way(i), i);
        }
        farm.weight(201);
        int[] wrong = {LEAST, -1, 10, MOST};
        for (int province : wrong) {
            CHECK.due("way(" + province + ")", farm.way(province), -1);
        }
        CHECK.due("trouble() stays", farm.trouble(), 2);
        CHECK.due("way(0) without borders", Farms.withPrices(9).way(0), 0);
    }

    private static void wayAt() {
        CHECK.sentence("BORDER i of that way, from the SOURCE on; NONE.");
        SaltFarm farm = greatest(1, "price is 0", "price is 1000");
        for (int i = 0; i < 9; i++) {
            CHECK.due("wayAt(9, " + i + ")", farm.wayAt(9, i), i);
        }
        farm.weight(201);
        int[] wrong = {LEAST, -1, 9, 10, 16, MOST};
        for (int i : wrong) {
            CHECK.due("wayAt(9, " + i + ")", farm.wayAt(9, i), -1);
        }
        CHECK.due("wayAt(4, 3)", farm.wayAt(4, 3), 3);
        CHECK.due("wayAt(4, 4)", farm.wayAt(4, 4), -1);
        CHECK.due("wayAt(0, 0) of its own source", farm.wayAt(0, 0), -1);
        int[] wrongProvinces = {LEAST, -1, 10, MOST};
        for (int province : wrongProvinces) {
            CHECK.due("wayAt(" + province + ", 0)", farm.wayAt(province, 0), -1);
        }
        CHECK.due("trouble() stays", farm.trouble(), 2);
        SaltFarm back = chain(1, 90, 90, 0);
        CHECK.due("wayAt(0, 0) from the source on", back.wayAt(0, 0), 1);
        CHECK.due("wayAt(0, 1)", back.wayAt(0, 1), 0);
    }

    private static void thisYear() {
        CHECK.sentence("TAKEN of a PROVINCE in THIS YEAR");
        SaltFarm farm = Farms.withProvinces(2);
        farm.border(0, 1, 5);
        Check.tell(farm, 0, 0, "price is 50");
        Check.tell(farm, 1, 0, "price when year<98 is 60;price when year=98 is 55;price when year=99 is 40");
        for (int year = 0; year < 97; year++) {
            farm.pass();
        }
        CHECK.due("taken(0) in 97", farm.taken(0), 5000);
        CHECK.due("brought(1, 0) in 97", farm.brought(1, 0), 65);
        farm.pass();
        CHECK.due("taken(0) in 98", farm.taken(0), 2500);
        CHECK.due("taken(1) in 98", farm.taken(1), 2750);
        farm.pass();
        CHECK.due("taken(1) in 99", farm.taken(1), 4000);
        CHECK.due("source(0) in 99", farm.source(0), 1);
        CHECK.due("lost() in 99", farm.lost(), 500);
        CHECK.refused(farm, "pass() beyond", farm.pass(), -1, 2);
        CHECK.due("taken(1) stays", farm.taken(1), 4000);
    }
}
