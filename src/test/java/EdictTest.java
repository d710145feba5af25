/** Promises 7 to 12: the tape, edicts, their faults, what is in force, prices and duties. */
public final class EdictTest {
    private static final Check CHECK = new Check();

    public static void main(String[] args) {
        feed();
        edict();
        edictsFull();
        faultsOfForm();
        faultsOfNames();
        faultsOfMany();
        faultAndWhere();
        force();
        price();
        sums();
        tests();
        old();
        CHECK.end();
    }

    private static void feed() {
        CHECK.promise("7");
        SaltFarm farm = new SaltFarm();
        farm.province(1, 1);
        for (int i = 1; i <= 15; i++) {
            CHECK.due("feed " + i, farm.feed(0x70726963, 0x65206973, 0x20373b64, 0x75747920, 0x69732031), 20 * i);
        }
        CHECK.due("feed 16", farm.feed(0, 0, 0, 0, 0), -1);
        CHECK.due("count(5)", farm.count(5), 300);
        CHECK.due("edict(0, 0, 20)", farm.edict(0, 0, 20), 0);
        CHECK.due("price", farm.price(0, 0, false), 7);
        CHECK.due("duty", farm.price(0, 0, true), 1);
        CHECK.due("count(5)", farm.count(5), 0);
        CHECK.due("feed again", farm.feed(1, 2, 3, 4, 5), 20);
        CHECK.due("a byte above 127 begins no token", Check.tell(farm, 0, 0, ""), -1);
        Check.feed(farm, "price is 1");
        farm.feed(-1, -1, -1, -1, -1);
        CHECK.due("edict(0, 0, 21)", farm.edict(0, 0, 21), -1);
        CHECK.due("where()", farm.where(), 20);
    }

    private static void edict() {
        CHECK.promise("8");
        SaltFarm farm = new SaltFarm();
        Check.feed(farm, "price is 5");
        CHECK.refused(farm, "no province", farm.edict(0, 100, 99), -1, 1);
        CHECK.refused(farm, "no province", farm.edict(-1, 0, 10), -1, 1);
        CHECK.due("count(5)", farm.count(5), 20);
        farm.province(1, 1);
        CHECK.refused(farm, "edict(0, 100, 10)", farm.edict(0, 100, 10), -1, 2);
        CHECK.refused(farm, "edict(0, -1, 10)", farm.edict(0, -1, 10), -1, 2);
        CHECK.refused(farm, "edict(0, 0, 21)", farm.edict(0, 0, 21), -1, 2);
        CHECK.refused(farm, "edict(0, 0, -1)", farm.edict(0, 0, -1), -1, 2);
        CHECK.due("count(5)", farm.count(5), 20);
        CHECK.refused(farm, "edict(0, 99, 20)", farm.edict(0, 99, 20), 0, 0);
        CHECK.due("count(5)", farm.count(5), 0);
        CHECK.due("count(2)", farm.count(2), 1);
        CHECK.due("price(0, 99)", farm.price(0, 99, false), 5);
        Check.feed(farm, "price is 5 and");
        CHECK.refused(farm, "a faulty one", farm.edict(0, 0, 14), -1, 4);
        CHECK.due("count(5)", farm.count(5), 0);
        CHECK.due("count(2)", farm.count(2), 1);
        Check.feed(farm, "price is 57");
        CHECK.refused(farm, "its first bytes", farm.edict(0, 0, 10), 1, 0);
        CHECK.due("price(0, 0)", farm.price(0, 0, false), 5);
        Check.feed(farm, "price is 5");
        CHECK.refused(farm, "none of its bytes", farm.edict(0, 0, 0), -1, 4);
        CHECK.due("where()", farm.where(), 0);
    }

    private static void edictsFull() {
        CHECK.promise("8");
        SaltFarm farm = new SaltFarm();
        farm.province(1, 1);
        for (int i = 0; i < 30; i++) {
            CHECK.due("edict " + i, Check.tell(farm, 0, i, "price is " + i), i);
        }
        CHECK.refused(farm, "a 31st, faulty", Check.tell(farm, 0, 0, "price"), -1, 4);
        CHECK.due("fault()", farm.fault(), 1);
        CHECK.refused(farm, "a 31st", Check.tell(farm, 0, 0, "price is 1"), -1, 3);
        CHECK.due("count(5)", farm.count(5), 0);
        CHECK.due("fault()", farm.fault(), 0);
        CHECK.due("where()", farm.where(), -1);
        CHECK.due("count(2)", farm.count(2), 30);
        CHECK.due("price(0, 29)", farm.price(0, 29, false), 29);
    }

    /** The fault of a text and its place, both 0 and -1 for a sound one. */
    private static void fault(String text, int fault, int place) {
        SaltFarm farm = new SaltFarm();
        farm.province(1, 1);
        int answer = Check.tell(farm, 0, 0, text);
        String call = "'" + text + "'";
        CHECK.due(call + " edict()", answer, fault == 0 ? 0 : -1);
        CHECK.due(call + " trouble()", farm.trouble(), fault == 0 ? 0 : 4);
        CHECK.due(call + " fault()", farm.fault(), fault);
        CHECK.due(call + " where()", farm.where(), place);
    }

    private static void faultsOfForm() {
        CHECK.promise("9, 10 FORM");
        fault("", 1, 0);
        fault("    ", 1, 4);
        fault("price", 1, 5);
        fault("price is 1;", 1, 11);
        fault("price is 1; ", 1, 12);
        fault(";price is 1", 1, 0);
        fault("price is 1;;price is 1", 1, 11);
        fault("Price is 1", 1, 0);
        fault("price is 1.", 1, 10);
        fault("price is 1\t", 1, 10);
        fault("price 1", 1, 6);
        fault("price year is 1", 1, 6);
        fault("price foo is 1", 1, 6);
        fault("foo is 1", 1, 0);
        fault("year is 1", 1, 0);
        fault("price is 1 2", 1, 11);
        fault("price is 1 year", 1, 11);
        fault("price is 1 foo", 1, 11);
        fault("price is 1)", 1, 10);
        fault("price is (1", 1, 11);
        fault("price is (1;", 1, 11);
        fault("price is ()", 1, 10);
        fault("price is 1<2", 1, 10);
        fault("price is 1 and 2", 1, 11);
        fault("price is -1", 1, 9);
        fault("price is 1+", 1, 11);
        fault("price is 1+*1", 1, 11);
        fault("price when is 1", 1, 11);
        fault("price when 1 is 1", 1, 13);
        fault("price when 1<2<3 is 1", 1, 14);
        fault("price when 1<2", 1, 14);
        fault("price when 1<2 and is 1", 1, 19);
        fault("price when 1<2 when 1<2 is 1", 1, 15);
        fault("price when (1<2) is 1", 1, 13);
        fault("price is 12345", 1, 9);
        fault("price is 1234", 0, -1);
        fault("price is 00001", 1, 9);
        fault("price is abcdefghi", 1, 9);
        fault("pricepric is 1", 1, 0);
        fault("priceis 1", 1, 0);
        fault("priceis1", 1, 0);
        fault("price is1", 0, -1);
        fault("price when 1=1and year<2is year*2;duty is(((1)))", 0, -1);
        fault(" price  is  1 + 2 ;  duty is need ", 0, -1);
    }

    private static void faultsOfNames() {
        CHECK.promise("9, 10 NAMES");
        fault("price is foo", 2, 9);
        fault("price is abcdefgh", 2, 9);
        fault("price is zaz", 2, 9);
        fault("price is years", 2, 9);
        fault("price is yea", 2, 9);
        fault("price is 1+foo !", 2, 11);
        fault("price is (foo", 2, 10);
        fault("price when foo<1 is 1", 2, 11);
        fault("price when 1<foo is 1", 2, 13);
        fault("price when 1<2 and foo is 1", 2, 19);
        fault("price is price", 1, 9);
        fault("price is duty", 1, 9);
        fault("price is when", 1, 9);
        fault("price is and", 1, 9);
        fault("price is is", 1, 9);
        fault("price is year+mouths+need+old", 0, -1);
    }

    private static void faultsOfMany() {
        CHECK.promise("9, 10 MANY");
        String eleven = Check.times("duty is 1;", 11);
        fault(eleven + "duty is 1", 0, -1);
        fault(eleven + "duty is 1;price is 1", 3, 120);
        fault(eleven + "duty is 1; duty !", 3, 121);
        fault(eleven + "duty is 1; is", 1, 121);
        fault(eleven + "duty is 1;foo", 1, 120);
        fault(eleven + "duty is 1;", 1, 120);
        String three = "price when " + Check.times("1<2 and ", 3);
        fault(three + "1<2 is 5", 0, -1);
        fault(three + "1<2 is 5;" + three + "1<2 is 5", 0, -1);
        fault(three + "1<2 and 1<2 is 5", 3, 43);
        fault(three + "1<2 and (1)<2 is 5", 3, 43);
        fault(three + "1<2 and year !", 3, 43);
        fault(three + "1<2 and foo<2 is 5", 2, 43);
        fault(three + "1<2 and is 5", 1, 43);
        fault(three + "1<2 and 12345<2", 1, 43);
        fault(three + "1<2 and", 1, 42);
        fault("price is ((((((((1))))))))", 0, -1);
        fault("price is (((((((((1)))))))))", 3, 17);
        fault("price is ((((((((1))))))))+((((((((1))))))))", 0, -1);
        fault("price is 1+((((((((1))))))))*(((((((((1", 3, 37);
        fault("price is 1" + Check.times("+1", 60), 0, -1);
        fault("price is 1" + Check.times("+1", 61), 3, 130);
        fault("price is 1" + Check.times("-1*1/1", 20) + "/1", 3, 130);
        fault("price is 1" + Check.times("-1*1/1", 20) + " 1", 1, 131);
        fault("price is 1" + Check.times("+1", 60) + "<1", 1, 130);
        fault("price is 1" + Check.times("+1", 40) + ";duty is 1" + Check.times("*1", 21), 3, 140);
        fault("price when 1" + Check.times("+1", 60) + "<1 is 1-1", 3, 139);
    }

    private static void faultAndWhere() {
        CHECK.promise("9, 10");
        SaltFarm farm = new SaltFarm();
        farm.province(1, 1);
        Check.tell(farm, 0, 0, "price is foo");
        CHECK.due("where()", farm.where(), 9);
        farm.force(0, 500);
        farm.price(7, 0, false);
        farm.count(9);
        farm.crown();
        CHECK.due("where() behind calls that can't be refused", farm.where(), 9);
        farm.weight(10);
        CHECK.due("where() behind another call", farm.where(), -1);
        CHECK.due("fault()", farm.fault(), 2);
        farm.edict(1, 0, 0);
        farm.edict(0, 100, 0);
        CHECK.due("fault() behind refusals by 1 and 2", farm.fault(), 2);
        Check.tell(farm, 0, 0, "price is 1");
        CHECK.due("fault()", farm.fault(), 0);
        CHECK.due("where()", farm.where(), -1);
    }

    private static void force() {
        CHECK.promise("11");
        SaltFarm farm = new SaltFarm();
        CHECK.due("force(0, 0)", farm.force(0, 0), -1);
        farm.province(1, 1);
        farm.province(1, 1);
        CHECK.due("force(0, 0)", farm.force(0, 0), -2);
        Check.tell(farm, 0, 50, "price is 1");
        Check.tell(farm, 1, 40, "price is 2");
        Check.tell(farm, 0, 20, "price is 3");
        Check.tell(farm, 0, 50, "price is 4");
        Check.tell(farm, 0, 20, "price is 5");
        CHECK.due("force(0, 19)", farm.force(0, 19), -2);
        CHECK.due("force(0, 20)", farm.force(0, 20), 4);
        CHECK.due("force(0, 49)", farm.force(0, 49), 4);
        CHECK.due("force(0, 50)", farm.force(0, 50), 3);
        CHECK.due("force(0, 99)", farm.force(0, 99), 3);
        CHECK.due("force(1, 39)", farm.force(1, 39), -2);
        CHECK.due("force(1, 99)", farm.force(1, 99), 1);
        CHECK.due("force(0, 100)", farm.force(0, 100), -1);
        CHECK.due("force(0, -1)", farm.force(0, -1), -1);
        CHECK.due("force(2, 0)", farm.force(2, 0), -1);
        CHECK.due("force(-1, 0)", farm.force(-1, 0), -1);
        CHECK.due("trouble()", farm.trouble(), 0);
    }

    private static void price() {
        CHECK.promise("12");
        SaltFarm farm = new SaltFarm();
        CHECK.due("price(0, 0)", farm.price(0, 0, false), -1);
        farm.province(8, 30);
        CHECK.due("price(0, 0)", farm.price(0, 0, false), 0);
        CHECK.due("duty(0, 0)", farm.price(0, 0, true), 0);
        Check.tell(farm, 0, 1, "price when year<3 is 5;duty is 31;price is 1001;price is 7;duty is 3");
        CHECK.due("price(0, 0)", farm.price(0, 0, false), 0);
        CHECK.due("price(0, 2)", farm.price(0, 2, false), 5);
        CHECK.due("price(0, 3)", farm.price(0, 3, false), 1000);
        CHECK.due("duty(0, 3)", farm.price(0, 3, true), 30);
        farm.people(0, 8, 50);
        CHECK.due("duty(0, 3)", farm.price(0, 3, true), 31);
        Check.tell(farm, 0, 2, "price is 0-1;duty is 2-4");
        CHECK.due("price(0, 3)", farm.price(0, 3, false), 0);
        CHECK.due("duty(0, 3)", farm.price(0, 3, true), 0);
        CHECK.due("price(0, 1)", farm.price(0, 1, false), 5);
        CHECK.due("price(0, 100)", farm.price(0, 100, false), -1);
        CHECK.due("duty(0, -1)", farm.price(0, -1, true), -1);
        CHECK.due("price(1, 0)", farm.price(1, 0, false), -1);
        CHECK.due("price(-1, 0)", farm.price(-1, 0, false), -1);
        CHECK.due("trouble()", farm.trouble(), 0);
    }

    private static void sum(String sum, int want) {
        SaltFarm farm = new SaltFarm();
        farm.province(100_000, 50);
        Check.tell(farm, 0, 0, "price is " + sum);
        CHECK.due(sum, farm.price(0, 7, false), want);
    }

    private static void sums() {
        CHECK.promise("12 SUM");
        sum("10-3-2", 5);
        sum("2+3*4", 14);
        sum("(2+3)*4", 20);
        sum("100/7/2", 7);
        sum("100/(7/2)", 33);
        sum("7/2*2", 6);
        sum("2*7/2", 7);
        sum("(0-7)/2+10", 7);
        sum("7/(0-2)+10", 7);
        sum("5/0+3", 3);
        sum("0/0", 0);
        sum("5/(year-7)", 0);
        sum("year*need+1", 351);
        sum("mouths/1000", 100);
        sum("9999*9999/1000", 1000);
        sum("9999*9999/2000", 500);
        sum("mouths*mouths/5000-199", 1);
        sum("(0-mouths)*mouths/5000+201", 1);
        sum("mouths*10+1-mouths*10", 0);
        sum("0-mouths*9-mouths*9+mouths*10+3", 3);
        sum("0-mouths*mouths-5+mouths*10", 0);
        sum("1000", 1000);
        sum("0999", 999);
        sum("((((((((2+1)*2+1)*2+1)*2+1)*2+1)*2+1)*2+1)*2+1)", 511);
        sum("1+2*(3+4*(5+6*(7+8*(1+1*(1+1*(1+1*(1+1)))))))", 1000);
        sum("500-5/(1+2*(3+4*(5+6*(7+8*(1-1*(1+1*(2-1*(1+0))))))))", 505);
    }

    private static void test(String test, boolean holds) {
        SaltFarm farm = new SaltFarm();
        farm.province(100, 20);
        Check.tell(farm, 0, 0, "price when " + test + " is 1;price is 2;duty when " + test + " is 3;duty is 4");
        CHECK.due(test, farm.price(0, 5, false), holds ? 1 : 2);
        CHECK.due(test, farm.price(0, 5, true), holds ? 3 : 4);
    }

    private static void tests() {
        CHECK.promise("12 TEST");
        test("1<2", true);
        test("2<2", false);
        test("2>1", true);
        test("2>2", false);
        test("2=2", true);
        test("2=3", false);
        test("year=5", true);
        test("mouths>99 and need<21", true);
        test("mouths>99 and need<20", false);
        test("mouths>100 and need<21", false);
        test("1=1 and 1=1 and 1=1 and 1=1", true);
        test("1=1 and 1=1 and 1=1 and 1=2", false);
        test("1+1*2=6/2 and 0-1<0", true);
    }

    private static void old() {
        CHECK.promise("12 old");
        SaltFarm farm = new SaltFarm();
        farm.province(1, 40);
        Check.tell(farm, 0, 3, "price is old+2;duty is old+1");
        CHECK.due("price(0, 2)", farm.price(0, 2, false), 0);
        CHECK.due("price(0, 3)", farm.price(0, 3, false), 2);
        CHECK.due("price(0, 99)", farm.price(0, 99, false), 194);
        CHECK.due("duty(0, 10)", farm.price(0, 10, true), 8);
        CHECK.due("duty(0, 99)", farm.price(0, 99, true), 40);
        Check.tell(farm, 0, 0, "price when old=0 is 900;price when old>899 is old-450;duty when year=0 is 30");
        CHECK.due("price(0, 0)", farm.price(0, 0, false), 900);
        CHECK.due("price(0, 1)", farm.price(0, 1, false), 450);
        CHECK.due("price(0, 2)", farm.price(0, 2, false), 0);
        CHECK.due("price(0, 3)", farm.price(0, 3, false), 2);
        CHECK.due("duty(0, 1)", farm.price(0, 1, true), 0);
        Check.tell(farm, 0, 0, "price when old=0 is 900;price is old-450;duty when old=0 is 30");
        CHECK.due("duty(0, 0), old in year 0", farm.price(0, 0, true), 30);
        CHECK.due("price(0, 2)", farm.price(0, 2, false), 0);
        Check.tell(farm, 0, 2, "price is old/2;duty when old<5 is 5;duty is 6");
        CHECK.due("price(0, 2)", farm.price(0, 2, false), 225);
        CHECK.due("price(0, 3)", farm.price(0, 3, false), 227);
        CHECK.due("duty(0, 2)", farm.price(0, 2, true), 5);
        CHECK.due("duty(0, 3)", farm.price(0, 3, true), 6);
        farm.people(0, 1, 4);
        CHECK.due("duty(0, 3)", farm.price(0, 3, true), 4);
        CHECK.due("duty(0, 98)", farm.price(0, 98, true), 4);
    }
}
