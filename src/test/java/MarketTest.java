/** Promises 13 to 23: costs, sources, what is taken, lost and carried, ways, and the best guards. */
public final class MarketTest {
    private static final Check CHECK = new Check();

    public static void main(String[] args) {
        noneSuch();
        costs();
        sources();
        money();
        thisYear();
        ways();
        atOnce();
        best();
        bestTies();
        CHECK.end();
    }

    /** Provinces 0, 1 .. with these prices, each of 10 mouths with a need of 5. */
    private static SaltFarm farmWith(int... prices) {
        SaltFarm farm = new SaltFarm();
        for (int i = 0; i < prices.length; i++) {
            farm.province(10, 5);
            Check.tell(farm, i, 0, "price is " + prices[i]);
        }
        return farm;
    }

    private static void noneSuch() {
        SaltFarm farm = farmWith(5, 6);
        farm.border(0, 1, 5);
        farm.weight(201);
        for (int wrong = -1; wrong <= 2; wrong += 3) {
            CHECK.promise("13");
            CHECK.due("brought(" + wrong + ", 0)", farm.brought(wrong, 0), -1);
            CHECK.due("brought(0, " + wrong + ")", farm.brought(0, wrong), -1);
            CHECK.promise("14 to 18");
            CHECK.due("cheap(" + wrong + ")", farm.cheap(wrong), -1);
            CHECK.due("source(" + wrong + ")", farm.source(wrong), -1);
            CHECK.due("taken(" + wrong + ")", farm.taken(wrong), -1);
            CHECK.promise("19 to 23");
            CHECK.due("carried(" + wrong + ")", farm.carried(wrong), -1);
            CHECK.due("way(" + wrong + ")", farm.way(wrong), -1);
            CHECK.due("wayAt(" + wrong + ", 0)", farm.wayAt(wrong, 0), -1);
            CHECK.due("stand(" + wrong + ")", farm.stand(wrong), -1);
        }
        CHECK.due("carried(1)", farm.carried(1), -1);
        CHECK.due("trouble() stays", farm.trouble(), 2);
    }

    private static void costs() {
        CHECK.promise("13");
        SaltFarm farm = farmWith(100, 7, 30, 2, 0);
        farm.border(0, 1, 10);
        farm.border(1, 2, 10);
        farm.border(2, 0, 21);
        farm.border(3, 4, 500);
        CHECK.due("brought(0, 2)", farm.brought(0, 2), 120);
        CHECK.due("brought(2, 0)", farm.brought(2, 0), 50);
        CHECK.due("brought(2, 2)", farm.brought(2, 2), 30);
        CHECK.due("brought(0, 3)", farm.brought(0, 3), -2);
        CHECK.due("brought(4, 3)", farm.brought(4, 3), 500);
        farm.guard(1, 1);
        CHECK.due("brought(0, 2)", farm.brought(0, 2), 121);
        CHECK.due("brought(1, 2)", farm.brought(1, 2), 27);
        CHECK.promise("14");
        CHECK.due("cheap(0)", farm.cheap(0), 17);
        CHECK.due("cheap(1)", farm.cheap(1), 7);
        CHECK.due("cheap(2)", farm.cheap(2), 27);
        CHECK.due("cheap(3)", farm.cheap(3), 2);
        farm.guard(1, 2);
        CHECK.due("cheap(2)", farm.cheap(2), 30);
        farm.guard(1, 9);
        farm.weight(200);
        CHECK.due("brought(1, 2)", farm.brought(1, 2), 38);
    }

    private static void sources() {
        CHECK.promise("15");
        SaltFarm farm = farmWith(20, 15, 10, 10, 40);
        farm.border(0, 1, 5);
        CHECK.due("source(0), own as cheap as 1", farm.source(0), 0);
        farm.border(2, 4, 10);
        farm.border(3, 4, 10);
        farm.border(1, 4, 5);
        CHECK.due("source(4) of 1, 2, 3 as cheap", farm.source(4), 1);
        farm.guard(3, 1);
        CHECK.due("source(4) of 2, 3 as cheap", farm.source(4), 2);
        farm.guard(1, 1);
        CHECK.due("source(4)", farm.source(4), 3);
        farm.guard(2, 9);
        CHECK.due("source(4) of 1, 2 as cheap", farm.source(4), 1);
        CHECK.due("source(3)", farm.source(3), 3);
        throughAProvinceOfItsOwn();
    }

    /** Province 1 is its own source though 0 is as cheap there; behind it 0 and 1 are as cheap, and 0 is the less. */
    private static void throughAProvinceOfItsOwn() {
        SaltFarm farm = farmWith(10, 15, 90);
        farm.border(0, 1, 5);
        farm.border(1, 2, 5);
        CHECK.due("source(1)", farm.source(1), 1);
        CHECK.due("source(2)", farm.source(2), 0);
        CHECK.due("way(2)", farm.way(2), 2);
        CHECK.due("taken(0)", farm.taken(0), 1000);
        CHECK.due("taken(1)", farm.taken(1), 750);
        CHECK.due("carried(0)", farm.carried(0), 50);
    }

    private static void money() {
        SaltFarm farm = new SaltFarm();
        farm.province(100_000, 50);
        farm.province(100_000, 50);
        farm.province(1000, 10);
        farm.border(0, 1, 400);
        Check.tell(farm, 0, 0, "price is 1000;duty is 20");
        Check.tell(farm, 1, 0, "price is 500;duty is 10");
        Check.tell(farm, 2, 0, "price is 30;duty is 4");
        CHECK.promise("16");
        CHECK.due("taken(0)", farm.taken(0), 100_000L * 20 * 1000);
        CHECK.due("taken(1)", farm.taken(1), 100_000L * 10 * 500 + 100_000L * (30 + 40) * 500);
        CHECK.due("taken(2)", farm.taken(2), 1000 * 10 * 30);
        CHECK.promise("17");
        CHECK.due("crown()", farm.crown(), 100_000L * 20 * 1000 + 100_000L * 80 * 500 + 300_000);
        CHECK.promise("18");
        CHECK.due("lost()", farm.lost(), 100_000L * 30 * 500);
        CHECK.promise("19");
        CHECK.due("carried(0)", farm.carried(0), 100_000L * 30);
        farm.guard(0, 9);
        farm.weight(12);
        CHECK.promise("17, 18, 19 without smuggling");
        CHECK.due("crown()", farm.crown(), 100_000L * 50 * 1000 + 100_000L * 50 * 500 + 300_000);
        CHECK.due("lost()", farm.lost(), 0);
        CHECK.due("carried(0)", farm.carried(0), 0);
    }

    private static void thisYear() {
        CHECK.promise("13 to 19, this year");
        SaltFarm farm = new SaltFarm();
        farm.province(10, 5);
        farm.province(10, 5);
        farm.border(0, 1, 5);
        Check.tell(farm, 0, 0, "price is 10+year*10;duty is year");
        Check.tell(farm, 1, 1, "price is 50-year*10");
        CHECK.due("crown()", farm.crown(), 0);
        CHECK.due("source(0)", farm.source(0), 1);
        farm.pass();
        CHECK.due("brought(0, 1)", farm.brought(0, 1), 25);
        CHECK.due("source(1)", farm.source(1), 0);
        CHECK.due("taken(0)", farm.taken(0), 20 * 100);
        CHECK.due("lost()", farm.lost(), 50 * 20);
        farm.pass();
        CHECK.due("source(1)", farm.source(1), 1);
        farm.pass();
        CHECK.due("source(0)", farm.source(0), 1);
        CHECK.due("carried(0)", farm.carried(0), 20);
    }

    private static void ways() {
        SaltFarm farm = farmWith(500, 500, 500, 0, 500);
        farm.border(2, 0, 20);
        farm.border(1, 0, 10);
        farm.border(3, 1, 20);
        farm.border(3, 2, 10);
        farm.border(3, 1, 20);
        CHECK.promise("20, 21");
        CHECK.due("way(3)", farm.way(3), 0);
        CHECK.due("wayAt(3, 0)", farm.wayAt(3, 0), -1);
        CHECK.due("way(4)", farm.way(4), 0);
        CHECK.due("way(0)", farm.way(0), 2);
        CHECK.due("wayAt(0, 0): from the source on the least number", farm.wayAt(0, 0), 2);
        CHECK.due("wayAt(0, 1)", farm.wayAt(0, 1), 1);
        CHECK.due("wayAt(0, 2)", farm.wayAt(0, 2), -1);
        CHECK.due("wayAt(0, -1)", farm.wayAt(0, -1), -1);
        CHECK.promise("19");
        CHECK.due("carried(0)", farm.carried(0), 0);
        CHECK.due("carried(1)", farm.carried(1), 50);
        CHECK.due("carried(2)", farm.carried(2), 100);
        CHECK.due("carried(3)", farm.carried(3), 50);
        CHECK.due("carried(4)", farm.carried(4), 0);
        farm.guard(2, 1);
        CHECK.due("carried(0): 3, 0 comes ahead of 4, 1", farm.carried(0), 50);
        CHECK.due("carried(1)", farm.carried(1), 0);
        CHECK.due("carried(4)", farm.carried(4), 50);
        farm.guard(4, 1);
        farm.guard(2, 2);
        CHECK.due("carried(0)", farm.carried(0), 50);
        CHECK.due("carried(1)", farm.carried(1), 0);
        CHECK.due("carried(4)", farm.carried(4), 50);
        CHECK.promise("20, 21");
        CHECK.due("wayAt(0, 0)", farm.wayAt(0, 0), 3);
        CHECK.due("wayAt(0, 1)", farm.wayAt(0, 1), 0);
    }

    /** Each answer is by what holds now, with no other call between a change and it. */
    private static void atOnce() {
        SaltFarm farm = farmWith(90, 10);
        farm.border(0, 1, 5);
        for (int round = 0; round < 2; round++) {
            CHECK.promise("13 to 21 at once, round " + round);
            farm.weight(10);
            int want = change(farm, round, 9) ? 1 : 0;
            CHECK.due("lost()", farm.lost(), want * 4000);
            want = change(farm, round, 0) ? 1 : 0;
            CHECK.due("way(0)", farm.way(0), want);
            want = change(farm, round, 9) ? 1 : 0;
            CHECK.due("wayAt(0, 0)", farm.wayAt(0, 0), want - 1);
            want = change(farm, round, 0) ? 1 : 0;
            CHECK.due("carried(0)", farm.carried(0), want * 50);
            want = change(farm, round, 9) ? 1 : 0;
            CHECK.due("crown()", farm.crown(), want == 1 ? 1000 : 5000);
            want = change(farm, round, 0) ? 1 : 0;
            CHECK.due("taken(1)", farm.taken(1), 500 + want * 500);
            want = change(farm, round, 9) ? 1 : 0;
            CHECK.due("source(0)", farm.source(0), want);
            want = change(farm, round, 0) ? 1 : 0;
            CHECK.due("cheap(0)", farm.cheap(0), want == 1 ? 15 : 90);
            want = change(farm, round, 9) ? 1 : 0;
            CHECK.due("brought(1, 0)", farm.brought(1, 0), want == 1 ? 15 : 105);
        }
    }

    /** Lays guards, the other way round in an odd round; true if salt is carried then. */
    private static boolean change(SaltFarm farm, int round, int guards) {
        int laid = round == 0 ? guards : 9 - guards;
        farm.guard(0, laid);
        return laid == 0;
    }

    private static void best() {
        CHECK.promise("22, 23");
        SaltFarm farm = new SaltFarm();
        CHECK.refused(farm, "best(4)", farm.best(4), -1, 2);
        CHECK.refused(farm, "best(-1)", farm.best(-1), -1, 2);
        CHECK.refused(farm, "best(3)", farm.best(3), 0, 0);
        farm = farmWith(100, 40, 60);
        CHECK.due("best(3) without borders", farm.best(3), 50 * 200);
        farm.border(0, 1, 35);
        CHECK.due("stand(0) of a border told later", farm.stand(0), -1);
        farm.border(1, 2, 5);
        farm.guard(0, 9);
        CHECK.due("best(0)", farm.best(0), 50 * 120);
        CHECK.due("stand(0)", farm.stand(0), 0);
        CHECK.due("count(6) stays", farm.count(6), 9);
        CHECK.due("crown() stays", farm.crown(), 50 * 180);
        CHECK.due("best(1) brings nothing", farm.best(1), 50 * 120);
        CHECK.due("stand(0)", farm.stand(0), 1);
        CHECK.due("stand(1)", farm.stand(1), 0);
        CHECK.due("best(2)", farm.best(2), 50 * 140);
        CHECK.due("stand(0)", farm.stand(0), 0);
        CHECK.due("stand(1)", farm.stand(1), 2);
        CHECK.due("best(3)", farm.best(3), 50 * 180);
        CHECK.due("stand(0)", farm.stand(0), 3);
        CHECK.due("stand(1)", farm.stand(1), 0);
        CHECK.refused(farm, "best(4)", farm.best(4), -1, 2);
        CHECK.due("stand(0) stays", farm.stand(0), 3);
        farm.border(0, 2, 500);
        CHECK.due("stand(2) of a border told later", farm.stand(2), -1);
        CHECK.due("brought(1, 0) stays", farm.brought(1, 0), 165);
    }

    private static void bestTies() {
        CHECK.promise("22, 23 as great ones");
        SaltFarm farm = farmWith(1, 2, 3);
        for (int i = 0; i < 16; i++) {
            farm.border(i % 3, (i + 1) % 3, 500);
        }
        CHECK.due("best(3)", farm.best(3), 50 * 6);
        CHECK.due("stand(0)", farm.stand(0), 3);
        CHECK.due("stand(15)", farm.stand(15), 0);
        CHECK.due("stand(16)", farm.stand(16), -1);
        farm = farmWith(20, 10);
        farm.border(0, 1, 5);
        farm.border(0, 1, 5);
        CHECK.due("best(3)", farm.best(3), 50 * 30);
        CHECK.due("stand(0)", farm.stand(0), 2);
        CHECK.due("stand(1)", farm.stand(1), 1);
        farm.weight(0);
        CHECK.due("best(2)", farm.best(2), 50 * 20);
        CHECK.due("stand(0)", farm.stand(0), 2);
        CHECK.due("stand(1)", farm.stand(1), 0);
    }
}
