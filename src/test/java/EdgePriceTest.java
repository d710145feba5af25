/** Term III, what a text makes of prices and duties, and promises 11 and 12, sentence by sentence. */
public final class EdgePriceTest {
    private static final Check CHECK = new Check();
    private static final int LEAST = Integer.MIN_VALUE;
    private static final int MOST = Integer.MAX_VALUE;
    /** 999,999 as a sum: a NUMBER has four digits at most. */
    private static final String NEARLY = "(9999*100+99)";

    public static void main(String[] args) {
        fromTheLeft();
        towardZero();
        byZero();
        upperBound();
        lowerBound();
        wrapAround();
        numbersAndNames();
        tests();
        allTests();
        firstLine();
        priceBound();
        dutyBound();
        withoutOne();
        oldInYearZero();
        oldOfTheYearAhead();
        oldOfEachKind();
        fromAYearOn();
        latestTold();
        force();
        price();
        asTheyAre();
        CHECK.end();
    }

    /** The sum as a price in year 7 of a province of 100,000 mouths with a need of 50. */
    private static void sum(String sum, int want) {
        sumOf(100_000, sum, want);
    }

    private static void sumOf(int mouths, String sum, int want) {
        SaltFarm farm = new SaltFarm();
        farm.province(mouths, 50);
        CHECK.granted(farm, "edict " + sum, Check.tell(farm, 0, 0, "price is " + sum), 0);
        CHECK.due(sum, farm.price(0, 7, false), want);
    }

    private static void fromTheLeft() {
        CHECK.sentence("SUM: TERM {+ TERM or - TERM}, from the left.");
        sum("10-3-2", 5);
        sum("10-3+2", 9);
        sum("10-(3+2)", 5);
        sum("1-2+3-4+5", 3);
        CHECK.sentence("TERM: ONE {* ONE or / ONE}, from the left");
        sum("100/7/2", 7);
        sum("100/(7/2)", 33);
        sum("7/2*2", 6);
        sum("2*7/2", 7);
        sum("2*3+4*5-6/2", 23);
        sum("2+3*4-10/5", 12);
        sum("(2+3)*(4-2)", 10);
    }

    private static void towardZero() {
        CHECK.sentence("(divided toward 0; by 0 it is 0)");
        sum("7/2", 3);
        sum("8/2", 4);
        sum("1/2", 0);
        sum("(0-7)/2+10", 7);
        sum("7/(0-2)+10", 7);
        sum("(0-7)/(0-2)", 3);
        sum("(0-1)/2+10", 10);
        sum("(0-8)/2+10", 6);
    }

    private static void byZero() {
        CHECK.sentence("by 0 it is 0");
        sum("5/0", 0);
        sum("5/0+3", 3);
        sum("0/0+3", 3);
        sum("(0-5)/0+3", 3);
        sum("5/(year-7)+3", 3);
        sum("5/(1/2)*9+3", 3);
        sum("8/(year-6)", 8);
        sum("8/(year-8)+20", 12);
    }

    private static void upperBound() {
        CHECK.sentence("What comes of each sign is bound to -1,000,000 .. 1,000,000.");
        sum(NEARLY + "-9999*100", 99);
        sum("mouths*10-" + NEARLY, 1);
        sum("1001*1000-" + NEARLY, 1);
        sum("mouths*9+mouths-" + NEARLY, 1);
        sum("mouths*9+mouths+1-" + NEARLY, 1);
        sum("mouths*10-(0-1)-" + NEARLY, 1);
        sum("mouths*10/1-" + NEARLY, 1);
        sum("mouths*10+1-1-" + NEARLY, 0);
        sum("mouths*10+1-2-9999*100", 98);
        sum("(mouths*10+1)/1000", 1000);
    }

    private static void lowerBound() {
        CHECK.sentence("What comes of each sign is bound to -1,000,000 .. 1,000,000.");
        sum("0-" + NEARLY + "+9999*100+199", 100);
        sum("0-mouths*10+" + NEARLY + "+2", 1);
        sum("0-mouths*10-1+" + NEARLY + "+2", 1);
        sum("(0-1000)*1000+" + NEARLY + "+2", 1);
        sum("(0-1001)*1000+" + NEARLY + "+2", 1);
        sum("0-mouths*10+(0-1)+" + NEARLY + "+2", 1);
        sum("(0-mouths*10)/1+" + NEARLY + "+2", 1);
        sum("mouths*10/(0-1)+" + NEARLY + "+2", 1);
        sum("0-mouths*10-1+1+" + NEARLY + "+1", 1);
    }

    private static void wrapAround() {
        CHECK.sentence("What comes of each sign is bound to -1,000,000 .. 1,000,000.");
        sumOf(46_341, "mouths*mouths-" + NEARLY, 1);
        sumOf(46_341, "(0-mouths)*mouths+" + NEARLY + "+2", 1);
        sumOf(65_536, "mouths*mouths-" + NEARLY, 1);
        sumOf(65_536, "(0-mouths)*mouths+" + NEARLY + "+2", 1);
        sumOf(65_536, "(0-mouths)*(0-mouths)-" + NEARLY, 1);
        sum("mouths*10*(mouths*10)-" + NEARLY, 1);
        sum("(0-mouths*10)*(mouths*10)+" + NEARLY + "+2", 1);
        sum("(0-mouths*10)*(0-mouths*10)-" + NEARLY, 1);
    }

    private static void numbersAndNames() {
        CHECK.sentence("NAME: year, mouths, need, old");
        sum("0", 0);
        sum("0000", 0);
        sum("0007", 7);
        sum("0999", 999);
        sum("9999-9000", 999);
        sum("year", 7);
        sum("need", 50);
        sum("mouths/1000", 100);
        sumOf(0, "mouths", 0);
        sumOf(999, "mouths", 999);
        sum("old", 0);
        sum("old+1", 8);
        CHECK.sentence("ONE: NUMBER, NAME, ( SUM ).");
        sum("1+2*(3+4*(5+6*(7+1*(1+1*(1+1*(1+1*(1+1*(1))))))))", 623);
        sum("500-5/(1+2*(3+4*(5+6*(7+8*(1-1*(1+1*(2-1*(1+0))))))))", 505);
    }

    private static void test(String test, boolean holds) {
        SaltFarm farm = new SaltFarm();
        farm.province(100_000, 20);
        String text = "price when " + test + " is 1;price is 2;duty when " + test + " is 3;duty is 4";
        CHECK.granted(farm, "edict " + text, Check.tell(farm, 0, 0, text), 0);
        CHECK.due("price " + test, farm.price(0, 5, false), holds ? 1 : 2);
        CHECK.due("duty " + test, farm.price(0, 5, true), holds ? 3 : 4);
    }

    private static void tests() {
        CHECK.sentence("TEST: SUM < SUM, SUM > SUM, SUM = SUM.");
        String[] signs = {"<", "=", ">"};
        for (int i = 0; i < 3; i++) {
            test("6" + signs[i] + "7", i == 0);
            test("7" + signs[i] + "7", i == 1);
            test("8" + signs[i] + "7", i == 2);
            test("0-1" + signs[i] + "0", i == 0);
            test("0" + signs[i] + "0-1", i == 2);
            test("0-mouths*10" + signs[i] + "mouths*10", i == 0);
            test("mouths*10" + signs[i] + "0-mouths*10", i == 2);
            test("mouths*10" + signs[i] + "mouths*10+1", i == 1);
            test("2+2*2" + signs[i] + "9/3*2", i == 1);
            test("year" + signs[i] + "5", i == 1);
            test("need" + signs[i] + "19", i == 2);
        }
        test("7=1+2*(1+1*(1+1*(1+0*(1+1*(1+1*(1+1*(1+1*(1))))))))", true);
        test("1+2*(1+1*(1+1*(1+0*(1+1*(1+1*(1+1*(1+1*(1))))))))=7", true);
    }

    private static void allTests() {
        CHECK.sentence("WHEN: nothing, or when TEST {and TEST}.");
        for (int tests = 1; tests <= 4; tests++) {
            for (int failing = -1; failing < tests; failing++) {
                StringBuilder text = new StringBuilder();
                for (int i = 0; i < tests; i++) {
                    text.append(i == 0 ? "" : " and ").append(i == failing ? "2=3" : "2=2");
                }
                test(text.toString(), failing < 0);
            }
        }
        test("2=3 and 2=3", false);
        test("2=3 and 2=2 and 2=3 and 2=2", false);
    }

    private static SaltFarm farmOf(int need, String text) {
        SaltFarm farm = new SaltFarm();
        farm.province(10, need);
        CHECK.granted(farm, "edict " + text, Check.tell(farm, 0, 0, text), 0);
        return farm;
    }

    private static void firstLine() {
        CHECK.sentence("of the first line of it whose TESTS hold");
        SaltFarm farm = farmOf(50, "price when year<2 is 1;duty when year<3 is 9;price when year<4 is 2;"
            + "price when year=3 is 3;price is 4;duty is 8;price is 5;duty is 7");
        int[] prices = {1, 1, 2, 2, 4, 4};
        int[] duties = {9, 9, 9, 8, 8, 8};
        for (int year = 0; year < 6; year++) {
            CHECK.due("price(0, " + year + ")", farm.price(0, year, false), prices[year]);
            CHECK.due("duty(0, " + year + ")", farm.price(0, year, true), duties[year]);
        }
        farm = farmOf(50, Check.times("price when 1=2 is 1;", 11) + "price is 2");
        CHECK.due("the last line of twelve", farm.price(0, 0, false), 2);
        farm = farmOf(50, "price is 1;" + Check.times("price is 2;", 10) + "duty is 3");
        CHECK.due("the first line of twelve", farm.price(0, 0, false), 1);
        CHECK.due("the last line of twelve", farm.price(0, 0, true), 3);
    }

    private static void priceBound() {
        CHECK.sentence("bound to 0 .. 1,000, and 0 .. NEED; 0 without one.");
        sum("999", 999);
        sum("1000", 1000);
        sum("1001", 1000);
        sum("9999", 1000);
        sum("mouths*10", 1000);
        sum("1", 1);
        sum("0", 0);
        sum("0-1", 0);
        sum("0-mouths*10", 0);
    }

    private static void duty(int need, String sum, int want) {
        SaltFarm farm = farmOf(need, "duty is " + sum);
        CHECK.due("duty is " + sum + " with a need of " + need, farm.price(0, 7, true), want);
        CHECK.due("price beside it", farm.price(0, 7, false), 0);
    }

    private static void dutyBound() {
        CHECK.sentence("bound to 0 .. 1,000, and 0 .. NEED; 0 without one.");
        duty(20, "19", 19);
        duty(20, "20", 20);
        duty(20, "21", 20);
        duty(20, "1", 1);
        duty(20, "0", 0);
        duty(20, "0-1", 0);
        duty(50, "49", 49);
        duty(50, "50", 50);
        duty(50, "51", 50);
        duty(50, "9999", 50);
        duty(50, "0-9999", 0);
        duty(0, "0", 0);
        duty(0, "1", 0);
        duty(1, "2", 1);
        duty(50, "need", 50);
        duty(50, "need+1", 50);
    }

    private static void withoutOne() {
        CHECK.sentence("0 without one.");
        SaltFarm farm = new SaltFarm();
        farm.province(10, 20);
        CHECK.due("price without an edict", farm.price(0, 0, false), 0);
        CHECK.due("duty without an edict", farm.price(0, 99, true), 0);
        Check.tell(farm, 0, 10, "price is 5");
        CHECK.due("price ahead of the first edict", farm.price(0, 9, false), 0);
        CHECK.due("duty without a line", farm.price(0, 10, true), 0);
        Check.tell(farm, 0, 20, "duty is 6");
        CHECK.due("price without a line", farm.price(0, 20, false), 0);
        CHECK.due("duty", farm.price(0, 20, true), 6);
        Check.tell(farm, 0, 30, "price when year=31 is 5;duty when year=32 is 6");
        CHECK.due("price, no test holds", farm.price(0, 30, false), 0);
        CHECK.due("price", farm.price(0, 31, false), 5);
        CHECK.due("duty, no test holds", farm.price(0, 31, true), 0);
        CHECK.due("duty", farm.price(0, 32, true), 6);
        CHECK.due("price, no test holds", farm.price(0, 32, false), 0);
    }

    private static void oldInYearZero() {
        CHECK.sentence("0 in YEAR 0)");
        SaltFarm farm = farmOf(50, "price is old+3;duty is old+2");
        CHECK.due("price(0, 0)", farm.price(0, 0, false), 3);
        CHECK.due("duty(0, 0)", farm.price(0, 0, true), 2);
        CHECK.due("price(0, 1)", farm.price(0, 1, false), 6);
        CHECK.due("duty(0, 1)", farm.price(0, 1, true), 4);
        CHECK.due("price(0, 0) once more", farm.price(0, 0, false), 3);
        farm = farmOf(50, "price when old=0 is 3;price is 4");
        CHECK.due("price(0, 0)", farm.price(0, 0, false), 3);
        CHECK.due("price(0, 1)", farm.price(0, 1, false), 4);
    }

    private static void oldOfTheYearAhead() {
        CHECK.sentence("of a price line the PRICE of the PROVINCE in the YEAR ahead");
        SaltFarm farm = farmOf(50, "price is old+2");
        CHECK.due("price(0, 99)", farm.price(0, 99, false), 200);
        CHECK.due("price(0, 98)", farm.price(0, 98, false), 198);
        Check.tell(farm, 0, 50, "price is old*2");
        CHECK.due("price(0, 49)", farm.price(0, 49, false), 100);
        CHECK.due("price(0, 50): old is of the edict before", farm.price(0, 50, false), 200);
        CHECK.due("price(0, 52)", farm.price(0, 52, false), 800);
        CHECK.due("price(0, 53): bound", farm.price(0, 53, false), 1000);
        CHECK.due("price(0, 99)", farm.price(0, 99, false), 1000);
        Check.tell(farm, 0, 51, "price is old-1");
        CHECK.due("price(0, 51)", farm.price(0, 51, false), 199);
        CHECK.due("price(0, 99)", farm.price(0, 99, false), 151);
        farm = new SaltFarm();
        farm.province(1, 1);
        Check.tell(farm, 0, 5, "price is old+1");
        CHECK.due("price(0, 5): no edict ahead", farm.price(0, 5, false), 1);
        farm = farmOf(50, "price when year=0 is 5000;price is old-1");
        CHECK.due("price(0, 1): old is bound above", farm.price(0, 1, false), 999);
        farm = farmOf(50, "price when year=0 is 0-5;price is old+1");
        CHECK.due("price(0, 1): old is bound below", farm.price(0, 1, false), 1);
    }

    private static void oldOfEachKind() {
        CHECK.sentence("of a duty line its DUTY then");
        SaltFarm farm = farmOf(50, "price when year=0 is 100;duty when year=0 is 60;duty is old-1;price is old-10");
        CHECK.due("price(0, 1)", farm.price(0, 1, false), 90);
        CHECK.due("duty(0, 1): old is bound by need", farm.price(0, 1, true), 49);
        farm.people(0, 10, 30);
        CHECK.due("duty(0, 1) with a need of 30", farm.price(0, 1, true), 29);
        CHECK.due("price(0, 1)", farm.price(0, 1, false), 90);
        farm = farmOf(50, "price is 100;duty when old>99 is 1;duty when old=7 is 2;duty is 7");
        CHECK.due("duty(0, 1)", farm.price(0, 1, true), 2);
        CHECK.due("duty(0, 2)", farm.price(0, 2, true), 7);
        farm = farmOf(50, "duty is 9;price when old=9 is 1;price when old=5 is 2;price is 5");
        CHECK.due("price(0, 1)", farm.price(0, 1, false), 2);
    }

    private static void fromAYearOn() {
        CHECK.sentence("An EDICT is of a PROVINCE from a YEAR on, up to the one with the next YEAR");
        SaltFarm farm = Farms.withProvinces(2);
        Check.tell(farm, 0, 20, "price is 20");
        Check.tell(farm, 0, 10, "price is 10");
        Check.tell(farm, 1, 15, "price is 15");
        Check.tell(farm, 0, 99, "price is 99");
        int[][] want = {{9, -2, 0}, {10, 1, 10}, {14, 1, 10}, {15, 1, 10}, {19, 1, 10}, {20, 0, 20}, {98, 0, 20},
            {99, 3, 99}};
        for (int[] row : want) {
            CHECK.due("force(0, " + row[0] + ")", farm.force(0, row[0]), row[1]);
            CHECK.due("price(0, " + row[0] + ")", farm.price(0, row[0], false), row[2]);
        }
        CHECK.due("force(1, 14)", farm.force(1, 14), -2);
        CHECK.due("force(1, 15)", farm.force(1, 15), 2);
        CHECK.due("force(1, 99)", farm.force(1, 99), 2);
        Check.tell(farm, 0, 0, "price is 1");
        CHECK.due("force(0, 0)", farm.force(0, 0), 4);
        CHECK.due("force(0, 9)", farm.force(0, 9), 4);
        CHECK.due("force(0, 10)", farm.force(0, 10), 1);
    }

    private static void latestTold() {
        CHECK.sentence("(of one YEAR the latest told)");
        SaltFarm farm = Farms.withProvinces(2);
        Check.tell(farm, 0, 10, "price is 1");
        CHECK.due("price(0, 10)", farm.price(0, 10, false), 1);
        Check.tell(farm, 0, 10, "price is 2");
        CHECK.due("force(0, 10)", farm.force(0, 10), 1);
        CHECK.due("price(0, 10)", farm.price(0, 10, false), 2);
        Check.tell(farm, 0, 5, "price is 3");
        CHECK.due("force(0, 10)", farm.force(0, 10), 1);
        Check.tell(farm, 1, 10, "price is 4");
        CHECK.due("force(0, 10)", farm.force(0, 10), 1);
        Check.tell(farm, 0, 10, "price is salt");
        CHECK.due("force(0, 10) behind a faulty one", farm.force(0, 10), 1);
        Check.tell(farm, 0, 10, "duty is 5");
        CHECK.due("force(0, 10)", farm.force(0, 10), 4);
        CHECK.due("price(0, 10): the former one's line is gone", farm.price(0, 10, false), 0);
        CHECK.due("duty(0, 10)", farm.price(0, 10, true), 5);
        Check.tell(farm, 0, 0, "price is 6");
        Check.tell(farm, 0, 0, "price is 7");
        CHECK.due("price(0, 0)", farm.price(0, 0, false), 7);
        CHECK.due("price(0, 4)", farm.price(0, 4, false), 7);
        CHECK.due("price(0, 5)", farm.price(0, 5, false), 3);
    }

    private static void force() {
        CHECK.sentence("The EDICT in force in a PROVINCE in a YEAR; -2 if there is none; NONE.");
        SaltFarm farm = Farms.withProvinces(2);
        farm.weight(201);
        int[] wrong = {LEAST, -1, 2, 10, MOST};
        for (int province : wrong) {
            CHECK.due("force(" + province + ", 0)", farm.force(province, 0), -1);
            CHECK.due("force(" + province + ", 100)", farm.force(province, 100), -1);
        }
        int[] wrongYears = {LEAST, -1, 100, MOST};
        for (int year : wrongYears) {
            CHECK.due("force(1, " + year + ")", farm.force(1, year), -1);
        }
        CHECK.due("force(1, 0)", farm.force(1, 0), -2);
        CHECK.due("force(1, 99)", farm.force(1, 99), -2);
        CHECK.due("trouble() stays", farm.trouble(), 2);
        Check.tell(farm, 1, 0, "price is 1");
        CHECK.due("force(1, 0)", farm.force(1, 0), 0);
        CHECK.due("force(0, 0)", farm.force(0, 0), -2);
        farm.pass();
        CHECK.due("force(1, 0) of a year that is past", farm.force(1, 0), 0);
    }

    private static void price() {
        CHECK.sentence("PRICE (or DUTY) of a PROVINCE in a YEAR, by MOUTHS and NEED as they are; NONE.");
        SaltFarm farm = Farms.withProvinces(2);
        Check.tell(farm, 1, 0, "price is year+1;duty is year/20");
        farm.weight(201);
        int[] wrong = {LEAST, -1, 2, 10, MOST};
        for (int province : wrong) {
            CHECK.due("price(" + province + ", 0)", farm.price(province, 0, false), -1);
            CHECK.due("duty(" + province + ", 0)", farm.price(province, 0, true), -1);
        }
        int[] wrongYears = {LEAST, -1, 100, MOST};
        for (int year : wrongYears) {
            CHECK.due("price(1, " + year + ")", farm.price(1, year, false), -1);
            CHECK.due("duty(1, " + year + ")", farm.price(1, year, true), -1);
        }
        CHECK.due("trouble() stays", farm.trouble(), 2);
        CHECK.due("price(1, 0)", farm.price(1, 0, false), 1);
        CHECK.due("price(1, 99)", farm.price(1, 99, false), 100);
        CHECK.due("duty(1, 99)", farm.price(1, 99, true), 4);
        CHECK.due("duty(1, 0)", farm.price(1, 0, true), 0);
        farm.pass();
        CHECK.due("price(1, 0) of a year that is past", farm.price(1, 0, false), 1);
    }

    private static void asTheyAre() {
        CHECK.sentence("by MOUTHS and NEED as they are");
        SaltFarm farm = farmOf(5, "price when year=0 is mouths;price is old+need;duty is 20");
        CHECK.due("price(0, 2)", farm.price(0, 2, false), 20);
        CHECK.due("duty(0, 2)", farm.price(0, 2, true), 5);
        farm.pass();
        farm.people(0, 100, 40);
        CHECK.due("price(0, 0) of a year that is past", farm.price(0, 0, false), 100);
        CHECK.due("price(0, 2)", farm.price(0, 2, false), 180);
        CHECK.due("duty(0, 2)", farm.price(0, 2, true), 20);
        CHECK.due("cheap(0)", farm.cheap(0), 140);
        farm.people(0, 0, 0);
        CHECK.due("price(0, 2)", farm.price(0, 2, false), 0);
        CHECK.due("duty(0, 2)", farm.price(0, 2, true), 0);
    }
}
