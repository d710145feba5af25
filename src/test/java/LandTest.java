/** Promises 1 to 6: a new object, provinces, people, borders, guards, weight. */
public final class LandTest {
    private static final Check CHECK = new Check();

    public static void main(String[] args) {
        newObject();
        province();
        people();
        border();
        guard();
        weight();
        CHECK.end();
    }

    private static void newObject() {
        CHECK.promise("1");
        SaltFarm farm = new SaltFarm();
        for (int what = 0; what <= 6; what++) {
            CHECK.due("count(" + what + ")", farm.count(what), 0);
        }
        CHECK.due("trouble()", farm.trouble(), 0);
        CHECK.due("fault()", farm.fault(), 0);
        CHECK.due("where()", farm.where(), -1);
        CHECK.due("crown()", farm.crown(), 0);
        CHECK.due("lost()", farm.lost(), 0);
        CHECK.due("worst()", farm.worst(), -2);
        CHECK.due("stand(0)", farm.stand(0), -1);
        CHECK.due("way(0)", farm.way(0), -1);
        CHECK.due("pass()", farm.pass(), 1);
    }

    private static void province() {
        CHECK.promise("2");
        SaltFarm farm = new SaltFarm();
        CHECK.refused(farm, "province(-1, 0)", farm.province(-1, 0), -1, 2);
        CHECK.refused(farm, "province(100001, 0)", farm.province(100001, 0), -1, 2);
        CHECK.refused(farm, "province(0, -1)", farm.province(0, -1), -1, 2);
        CHECK.refused(farm, "province(0, 51)", farm.province(0, 51), -1, 2);
        CHECK.due("count(0)", farm.count(0), 0);
        CHECK.refused(farm, "province(0, 0)", farm.province(0, 0), 0, 0);
        CHECK.refused(farm, "province(100000, 50)", farm.province(100000, 50), 1, 0);
        for (int i = 2; i < 10; i++) {
            CHECK.due("province(5, 5)", farm.province(5, 5), i);
        }
        CHECK.refused(farm, "an 11th", farm.province(5, 5), -1, 3);
        CHECK.refused(farm, "an 11th with a wrong number", farm.province(5, 51), -1, 2);
        CHECK.due("count(0)", farm.count(0), 10);
    }

    private static void people() {
        CHECK.promise("3");
        SaltFarm farm = new SaltFarm();
        CHECK.due("people(0, 1, 1)", farm.people(0, 1, 1), false);
        CHECK.due("trouble()", farm.trouble(), 1);
        farm.province(10, 5);
        Check.tell(farm, 0, 0, "price is mouths + need * 100");
        CHECK.due("price(0, 0)", farm.price(0, 0, false), 510);
        CHECK.due("people(0, 20, 6)", farm.people(0, 20, 6), true);
        CHECK.due("trouble()", farm.trouble(), 0);
        CHECK.due("price(0, 0)", farm.price(0, 0, false), 620);
        CHECK.due("crown()", farm.crown(), 20 * 6 * 620);
        CHECK.due("people(0, 100001, 6)", farm.people(0, 100001, 6), false);
        CHECK.due("trouble()", farm.trouble(), 2);
        CHECK.due("people(0, -1, 6)", farm.people(0, -1, 6), false);
        CHECK.due("people(0, 20, 51)", farm.people(0, 20, 51), false);
        CHECK.due("people(0, 20, -1)", farm.people(0, 20, -1), false);
        CHECK.due("people(1, -1, -1)", farm.people(1, -1, -1), false);
        CHECK.due("trouble()", farm.trouble(), 1);
        CHECK.due("people(-1, 1, 1)", farm.people(-1, 1, 1), false);
        CHECK.due("price(0, 0)", farm.price(0, 0, false), 620);
        CHECK.due("people(0, 100000, 50)", farm.people(0, 100000, 50), true);
        CHECK.due("people(0, 0, 0)", farm.people(0, 0, 0), true);
        CHECK.due("price(0, 0)", farm.price(0, 0, false), 0);
    }

    private static void border() {
        CHECK.promise("4");
        SaltFarm farm = new SaltFarm();
        farm.province(1, 1);
        CHECK.refused(farm, "border(0, 1, 5)", farm.border(0, 1, 5), -1, 1);
        CHECK.refused(farm, "border(1, 0, 5)", farm.border(1, 0, 5), -1, 1);
        CHECK.refused(farm, "border(-1, 0, 5)", farm.border(-1, 0, 5), -1, 1);
        farm.province(1, 1);
        CHECK.refused(farm, "border(0, 0, 0)", farm.border(0, 0, 0), -1, 1);
        CHECK.refused(farm, "border(0, 1, 0)", farm.border(0, 1, 0), -1, 2);
        CHECK.refused(farm, "border(0, 1, 501)", farm.border(0, 1, 501), -1, 2);
        CHECK.refused(farm, "border(0, 1, 500)", farm.border(0, 1, 500), 0, 0);
        CHECK.due("brought(0, 1)", farm.brought(0, 1), 500);
        CHECK.due("brought(1, 0)", farm.brought(1, 0), 500);
        CHECK.refused(farm, "border(1, 0, 1)", farm.border(1, 0, 1), 1, 0);
        CHECK.due("brought(0, 1)", farm.brought(0, 1), 1);
        for (int i = 2; i < 16; i++) {
            CHECK.due("border(0, 1, 9)", farm.border(0, 1, 9), i);
        }
        CHECK.refused(farm, "a 17th", farm.border(0, 1, 9), -1, 3);
        CHECK.refused(farm, "a 17th with a wrong number", farm.border(0, 1, 0), -1, 2);
        CHECK.refused(farm, "a 17th of none such", farm.border(0, 2, 0), -1, 1);
        CHECK.due("count(1)", farm.count(1), 16);
    }

    private static void guard() {
        CHECK.promise("5");
        SaltFarm farm = new SaltFarm();
        farm.province(1, 1);
        farm.province(1, 1);
        CHECK.due("guard(0, 1)", farm.guard(0, 1), false);
        CHECK.due("trouble()", farm.trouble(), 1);
        farm.border(0, 1, 7);
        farm.border(0, 1, 500);
        CHECK.due("guard(0, 9)", farm.guard(0, 9), true);
        CHECK.due("trouble()", farm.trouble(), 0);
        CHECK.due("brought(0, 1)", farm.brought(0, 1), 97);
        CHECK.due("guard(0, 10)", farm.guard(0, 10), false);
        CHECK.due("trouble()", farm.trouble(), 2);
        CHECK.due("guard(0, -1)", farm.guard(0, -1), false);
        CHECK.due("guard(2, 10)", farm.guard(2, 10), false);
        CHECK.due("trouble()", farm.trouble(), 1);
        CHECK.due("guard(-1, 1)", farm.guard(-1, 1), false);
        CHECK.due("brought(0, 1)", farm.brought(0, 1), 97);
        CHECK.due("guard(0, 2)", farm.guard(0, 2), true);
        CHECK.due("guard(1, 3)", farm.guard(1, 3), true);
        CHECK.due("count(6)", farm.count(6), 5);
        CHECK.due("brought(0, 1)", farm.brought(0, 1), 27);
        CHECK.due("guard(0, 0)", farm.guard(0, 0), true);
        CHECK.due("brought(0, 1)", farm.brought(0, 1), 7);
    }

    private static void weight() {
        CHECK.promise("6");
        SaltFarm farm = new SaltFarm();
        farm.province(1, 1);
        farm.province(1, 1);
        farm.border(0, 1, 7);
        farm.guard(0, 2);
        CHECK.due("brought(0, 1)", farm.brought(0, 1), 27);
        CHECK.due("weight(200)", farm.weight(200), true);
        CHECK.due("brought(0, 1)", farm.brought(0, 1), 407);
        CHECK.due("weight(201)", farm.weight(201), false);
        CHECK.due("trouble()", farm.trouble(), 2);
        CHECK.due("weight(-1)", farm.weight(-1), false);
        CHECK.due("brought(0, 1)", farm.brought(0, 1), 407);
        CHECK.due("weight(0)", farm.weight(0), true);
        CHECK.due("trouble()", farm.trouble(), 0);
        CHECK.due("brought(0, 1)", farm.brought(0, 1), 7);
    }
}
