/** Term V, BEST GUARDS, and promises 22 and 23, sentence by sentence. */
public final class EdgeGuardsTest {
    private static final Check CHECK = new Check();
    private static final int LEAST = Integer.MIN_VALUE;
    private static final int MOST = Integer.MAX_VALUE;

    public static void main(String[] args) {
        soMany();
        noneWithoutBorders();
        oneBorder();
        inPlaceOfAll();
        greatest();
        barelyEnough();
        moreOnBorderZero();
        moreOnTheNext();
        sixteenBorders();
        nothingIsChanged();
        greatSums();
        standOfTheLatest();
        standOfOthers();
        standNone();
        CHECK.end();
    }

    private static void stands(SaltFarm farm, int... want) {
        for (int i = 0; i < want.length; i++) {
            CHECK.due("stand(" + i + ")", farm.stand(i), want[i]);
        }
        CHECK.due("stand(" + want.length + ")", farm.stand(want.length), -1);
    }

    /** 0 buys at 1 for 45 in place of 50 over border 2, till a guard stands there; borders 0 and 1 carry nothing. */
    private static SaltFarm oneGuardIsEnough() {
        SaltFarm farm = Farms.withPrices(50, 40, 60, 60);
        farm.border(2, 3, 5);
        farm.border(3, 2, 5);
        farm.border(0, 1, 5);
        return farm;
    }

    private static void soMany() {
        CHECK.sentence("BEST GUARDS: so many (0 .. 3; none without BORDERS)");
        SaltFarm farm = oneGuardIsEnough();
        int[] wrong = {LEAST, -1, 4, 9, MOST};
        for (int guards : wrong) {
            CHECK.refused(farm, "best(" + guards + ")", farm.best(guards), -1, 2);
            CHECK.due("stand(0) ahead of all", farm.stand(0), -1);
        }
        CHECK.granted(farm, "best(0)", farm.best(0), 50 * (40 + 40 + 120));
        stands(farm, 0, 0, 0);
        CHECK.granted(farm, "best(1)", farm.best(1), 50 * (50 + 40 + 120));
        stands(farm, 0, 0, 1);
        CHECK.granted(farm, "best(2)", farm.best(2), 50 * (50 + 40 + 120));
        stands(farm, 1, 0, 1);
        CHECK.granted(farm, "best(3)", farm.best(3), 50 * (50 + 40 + 120));
        stands(farm, 2, 0, 1);
        CHECK.sentence("the sum of TAKEN by them; -1 (2).");
        CHECK.refused(farm, "best(4)", farm.best(4), -1, 2);
        stands(farm, 2, 0, 1);
    }

    private static void noneWithoutBorders() {
        CHECK.sentence("none without BORDERS");
        SaltFarm empty = new SaltFarm();
        SaltFarm farm = Farms.withPrices(50, 40);
        for (int guards = 0; guards <= 3; guards++) {
            CHECK.granted(empty, "best(" + guards + ") without provinces", empty.best(guards), 0);
            CHECK.granted(farm, "best(" + guards + ") without borders", farm.best(guards), 50 * 90);
            stands(farm);
        }
        CHECK.refused(farm, "best(4) without borders", farm.best(4), -1, 2);
        farm.border(0, 1, 5);
        CHECK.due("stand(0) of a border made behind it", farm.stand(0), -1);
        CHECK.granted(farm, "best(1)", farm.best(1), 50 * 90);
        stands(farm, 1);
    }

    private static void oneBorder() {
        CHECK.sentence("on BORDERS in place of all that stand there, 9 at most on each");
        SaltFarm farm = Farms.withPrices(100, 40);
        farm.border(0, 1, 30);
        for (int guards = 0; guards <= 3; guards++) {
            CHECK.granted(farm, "best(" + guards + ")", farm.best(guards), 50 * (guards < 3 ? 80 : 140));
            stands(farm, guards);
        }
    }

    private static void inPlaceOfAll() {
        CHECK.sentence("in place of all that stand there");
        SaltFarm farm = oneGuardIsEnough();
        farm.guard(0, 9);
        farm.guard(2, 9);
        CHECK.due("crown()", farm.crown(), 50 * (50 + 40 + 120));
        CHECK.granted(farm, "best(0)", farm.best(0), 50 * (40 + 40 + 120));
        stands(farm, 0, 0, 0);
        CHECK.granted(farm, "best(1)", farm.best(1), 50 * (50 + 40 + 120));
        stands(farm, 0, 0, 1);
        for (int border = 0; border < 16; border++) {
            SaltFarm one = Farms.withPrices(50, 40);
            for (int i = 0; i < 16; i++) {
                one.border(0, 1, i == border ? 5 : 500);
            }
            one.guard(border, 9);
            CHECK.due("crown() with guards on " + border, one.crown(), 50 * 90);
            CHECK.granted(one, "best(0) with guards on " + border, one.best(0), 50 * 80);
        }
    }

    /** Three pairs: the guards go where the most is to be had, not to the first. */
    private static void greatest() {
        CHECK.sentence("so that the sum of TAKEN is greatest");
        SaltFarm farm = Farms.withPrices(50, 45, 50, 40, 50, 42);
        farm.border(0, 1, 1);
        farm.border(2, 3, 1);
        farm.border(4, 5, 1);
        CHECK.granted(farm, "best(0)", farm.best(0), 50 * 2 * (45 + 40 + 42));
        stands(farm, 0, 0, 0);
        CHECK.granted(farm, "best(1)", farm.best(1), 50 * (2 * (45 + 42) + 90));
        stands(farm, 0, 1, 0);
        CHECK.granted(farm, "best(2)", farm.best(2), 50 * (2 * 45 + 90 + 92));
        stands(farm, 0, 1, 1);
        CHECK.granted(farm, "best(3)", farm.best(3), 50 * (95 + 90 + 92));
        stands(farm, 1, 1, 1);
        farm.weight(4);
        CHECK.granted(farm, "best(3), the second needs three", farm.best(3), 50 * (95 + 92 + 80));
        stands(farm, 1, 0, 2);
        farm.weight(3);
        CHECK.granted(farm, "best(3)", farm.best(3), 50 * (90 + 90 + 84));
        stands(farm, 0, 3, 0);
    }

    private static void barelyEnough() {
        CHECK.sentence("each worth WEIGHT (0 .. 200; 10 at first) pence more");
        SaltFarm farm = Farms.withPrices(50, 40);
        farm.border(0, 1, 1);
        farm.weight(9);
        CHECK.granted(farm, "best(1): as dear as its own", farm.best(1), 50 * 90);
        farm.weight(8);
        CHECK.granted(farm, "best(1): a penny less", farm.best(1), 50 * 80);
        farm.weight(3);
        CHECK.granted(farm, "best(3): as dear as its own", farm.best(3), 50 * 90);
        CHECK.granted(farm, "best(2)", farm.best(2), 50 * 80);
        farm.weight(200);
        CHECK.granted(farm, "best(1)", farm.best(1), 50 * 90);
        farm.weight(0);
        CHECK.granted(farm, "best(3): guards worth nothing", farm.best(3), 50 * 80);
        stands(farm, 3);
    }

    private static void moreOnBorderZero() {
        CHECK.sentence("of as great ones with more on BORDER 0, then on BORDER 1 ..");
        SaltFarm farm = Farms.withPrices(1, 2, 3);
        for (int i = 0; i < 16; i++) {
            farm.border(i % 3, (i + 1) % 3, 500);
        }
        for (int guards = 0; guards <= 3; guards++) {
            CHECK.granted(farm, "best(" + guards + ")", farm.best(guards), 50 * 6);
            stands(farm, guards, 0, 0, 0, 0, 0, 0, 0, 0, 0, 0, 0, 0, 0, 0, 0);
        }
    }

    /** Two like borders between one pair: each needs a guard, the third goes to border 0, or 1 if 0 is elsewhere. */
    private static void moreOnTheNext() {
        CHECK.sentence("of as great ones with more on BORDER 0, then on BORDER 1 ..");
        SaltFarm farm = Farms.withPrices(20, 10);
        farm.border(0, 1, 5);
        farm.border(0, 1, 5);
        CHECK.granted(farm, "best(3)", farm.best(3), 50 * 30);
        stands(farm, 2, 1);
        CHECK.granted(farm, "best(2)", farm.best(2), 50 * 30);
        stands(farm, 1, 1);
        CHECK.granted(farm, "best(1): one is not enough", farm.best(1), 50 * 20);
        stands(farm, 1, 0);
        SaltFarm far = Farms.withPrices(40, 10, 60, 55);
        far.border(0, 1, 5);
        far.border(0, 1, 5);
        far.border(2, 3, 1);
        far.border(2, 3, 1);
        CHECK.granted(far, "best(3): two on the last pair, one left", far.best(3), 50 * (20 + 115));
        stands(far, 1, 0, 1, 1);
        CHECK.granted(far, "best(1)", far.best(1), 50 * (20 + 110));
        stands(far, 1, 0, 0, 0);
    }

    private static void sixteenBorders() {
        CHECK.sentence("BORDERS 16");
        SaltFarm farm = Farms.withPrices(50, 45, 50, 45, 50, 45, 70, 70, 0, 0);
        for (int i = 0; i < 13; i++) {
            farm.border(6, 7, 1);
        }
        farm.border(0, 1, 1);
        farm.border(2, 3, 1);
        farm.border(4, 5, 1);
        CHECK.granted(farm, "best(3): one each on the last three", farm.best(3), 50 * (3 * 95 + 140));
        stands(farm, 0, 0, 0, 0, 0, 0, 0, 0, 0, 0, 0, 0, 0, 1, 1, 1);
        CHECK.granted(farm, "best(2)", farm.best(2), 50 * (2 * 95 + 90 + 140));
        stands(farm, 0, 0, 0, 0, 0, 0, 0, 0, 0, 0, 0, 0, 0, 1, 1, 0);
        Check.tell(farm, 4, 0, "price is 75");
        CHECK.granted(farm, "best(3): all on the last", farm.best(3), 50 * (90 + 90 + 120 + 140));
        stands(farm, 0, 0, 0, 0, 0, 0, 0, 0, 0, 0, 0, 0, 0, 0, 0, 3);
    }

    private static void nothingIsChanged() {
        CHECK.sentence("BEST GUARDS (nothing is changed)");
        SaltFarm farm = oneGuardIsEnough();
        farm.guard(0, 4);
        farm.guard(2, 9);
        Check.feed(farm, "price is 1");
        for (int guards = 0; guards <= 4; guards++) {
            farm.best(guards);
            CHECK.due("count(6)", farm.count(6), 13);
            CHECK.due("brought(0, 1)", farm.brought(0, 1), 145);
            CHECK.due("brought(2, 3)", farm.brought(2, 3), 65);
            CHECK.due("crown()", farm.crown(), 50 * 210);
            CHECK.due("carried(2)", farm.carried(2), 0);
            CHECK.due("count(3)", farm.count(3), 0);
            CHECK.due("count(5)", farm.count(5), 20);
        }
        farm.guard(2, 0);
        farm.best(3);
        CHECK.due("carried(2)", farm.carried(2), 50);
        CHECK.due("way(0)", farm.way(0), 1);
        CHECK.due("lost()", farm.lost(), 500);
    }

    private static void greatSums() {
        CHECK.sentence("BEST GUARDS (nothing is changed): the sum of TAKEN by them");
        SaltFarm farm = new SaltFarm();
        for (int i = 0; i < 10; i++) {
            farm.province(100_000, 50);
            Check.tell(farm, i, 0, "price is " + (i == 9 ? 999 : 1000));
        }
        farm.border(0, 1, 500);
        CHECK.granted(farm, "best(3)", farm.best(3), 5_000_000L * 9999);
        stands(farm, 3);
    }

    private static void standOfTheLatest() {
        CHECK.sentence("How many the latest best() that told a sum has on a BORDER; NONE.");
        SaltFarm farm = oneGuardIsEnough();
        farm.best(3);
        stands(farm, 2, 0, 1);
        farm.best(-1);
        stands(farm, 2, 0, 1);
        farm.best(4);
        stands(farm, 2, 0, 1);
        farm.best(1);
        stands(farm, 0, 0, 1);
        farm.best(0);
        stands(farm, 0, 0, 0);
    }

    /** What the guards of the latest best() were is not changed by what comes behind it. */
    private static void standOfOthers() {
        CHECK.sentence("How many the latest best() that told a sum has on a BORDER; NONE.");
        SaltFarm farm = oneGuardIsEnough();
        farm.best(3);
        farm.guard(0, 9);
        farm.guard(2, 0);
        farm.weight(0);
        farm.people(0, 0, 0);
        farm.pass();
        Check.tell(farm, 0, 0, "price is 1");
        farm.crown();
        stands(farm, 2, 0, 1);
        farm.border(0, 2, 9);
        stands(farm, 2, 0, 1);
        farm.best(2);
        stands(farm, 2, 0, 0, 0);
    }

    private static void standNone() {
        CHECK.sentence("How many the latest best() that told a sum has on a BORDER; NONE.");
        SaltFarm farm = oneGuardIsEnough();
        CHECK.due("stand(0) ahead of all", farm.stand(0), -1);
        farm.best(3);
        farm.weight(201);
        int[] wrong = {LEAST, -1, 3, 15, 16, MOST};
        for (int border : wrong) {
            CHECK.due("stand(" + border + ")", farm.stand(border), -1);
        }
        CHECK.due("trouble() stays", farm.trouble(), 2);
    }
}
