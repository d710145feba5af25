import java.util.ArrayList;
import java.util.List;
import java.util.function.ToLongFunction;

/**
 * Term VI and promise 31: each refused call tells its TROUBLE and changes nothing else, and the calls behind it answer
 * as if it had not been. Two farms are led alike, and one of them has the refused call between.
 */
public final class RefusedTest {
    private static final Check CHECK = new Check();

    private record Refused(String call, ToLongFunction<SaltFarm> run, long answer, int trouble) { }

    public static void main(String[] args) {
        troubleAtFirst();
        troubleOfGranted();
        troubleStays();
        for (Refused refused : ofAnOrdinaryFarm()) {
            changesNothing(refused, false);
        }
        for (Refused refused : ofAFullFarm()) {
            changesNothing(refused, true);
        }
        CHECK.end();
    }

    private static void troubleAtFirst() {
        CHECK.sentence("0 it wasn't; 1 there is none such; 2 a number; 3 no room; 4 a FAULT; 5 a STORE isn't COUNTED.");
        SaltFarm farm = new SaltFarm();
        CHECK.due("trouble() ahead of all", farm.trouble(), 0);
        CHECK.due("trouble() again", farm.trouble(), 0);
        farm.weight(201);
        CHECK.due("trouble()", farm.trouble(), 2);
        CHECK.due("trouble() again", farm.trouble(), 2);
    }

    private static long bit(boolean answer) {
        return answer ? 1 : 0;
    }

    /** Each call that may be refused, granted behind a refusal. */
    private static void troubleOfGranted() {
        CHECK.sentence("TROUBLE of the latest call that may be refused: 0 it wasn't;");
        List<ToLongFunction<SaltFarm>> calls = new ArrayList<>();
        calls.add(f -> f.province(1, 1));
        calls.add(f -> bit(f.people(0, 1, 1)));
        calls.add(f -> f.border(0, 1, 1));
        calls.add(f -> bit(f.guard(0, 1)));
        calls.add(f -> bit(f.weight(1)));
        calls.add(f -> f.edict(0, 0, 10));
        calls.add(f -> f.best(1));
        calls.add(f -> f.store(0, 1));
        calls.add(f -> f.moves(0, 1, false));
        calls.add(f -> f.moves(0, 1, true));
        calls.add(f -> f.counted(0, 1));
        calls.add(f -> f.counted(1, 1));
        calls.add(f -> f.counted(2, 1));
        calls.add(f -> f.pass());
        SaltFarm farm = ordinary();
        for (int i = 0; i < calls.size(); i++) {
            farm.weight(201);
            CHECK.due("trouble() ahead of call " + i, farm.trouble(), 2);
            calls.get(i).applyAsLong(farm);
            CHECK.due("trouble() behind call " + i, farm.trouble(), 0);
        }
    }

    /** The calls for which the document names no trouble leave it, whether they tell something or NONE. */
    private static void troubleStays() {
        CHECK.sentence("TROUBLE of the latest call that may be refused");
        int[] troubles = {1, 2, 3, 4, 5};
        for (int trouble : troubles) {
            SaltFarm farm = Farms.full();
            int told = refuseBy(farm, trouble);
            CHECK.due("trouble()", told, trouble);
            List<Long> row = new ArrayList<>();
            answers(farm, row);
            farm.force(10, 0);
            farm.price(0, 100, true);
            farm.brought(0, 10);
            farm.cheap(10);
            farm.source(-1);
            farm.taken(10);
            farm.carried(16);
            farm.way(10);
            farm.wayAt(0, 99);
            farm.stand(16);
            farm.missing(8);
            farm.count(7);
            for (int i = 0; i < 16; i++) {
                farm.feed(0, 0, 0, 0, 0);
            }
            CHECK.due("trouble() stays", farm.trouble(), trouble);
        }
    }

    private static int refuseBy(SaltFarm farm, int trouble) {
        switch (trouble) {
            case 1 -> farm.people(10, 1, 1);
            case 2 -> farm.weight(201);
            case 3 -> farm.province(1, 1);
            case 4 -> farm.edict(0, 0, 1);
            default -> farm.pass();
        }
        return farm.trouble();
    }

    /** Some of all there is, with room for more; year 1; the tape holds a text. */
    private static SaltFarm ordinary() {
        SaltFarm farm = Farms.withPrices(90, 20, 60);
        farm.border(0, 1, 9);
        farm.border(1, 2, 8);
        farm.guard(1, 2);
        farm.weight(12);
        farm.pass();
        farm.store(0, 40);
        farm.store(2, 50);
        farm.counted(0, 30);
        farm.counted(1, 30);
        farm.pass();
        farm.moves(0, 5, false);
        farm.counted(1, 9);
        farm.best(2);
        Check.tell(farm, 1, 5, "price is old+salt");
        Check.feed(farm, "price is 7");
        return farm;
    }

    private static List<Refused> ofAnOrdinaryFarm() {
        List<Refused> all = new ArrayList<>();
        all.add(new Refused("province(100001, 1)", f -> f.province(100_001, 1), -1, 2));
        all.add(new Refused("province(1, 51)", f -> f.province(1, 51), -1, 2));
        all.add(new Refused("people(3, 1, 1)", f -> bit(f.people(3, 1, 1)), 0, 1));
        all.add(new Refused("people(0, 1, 51)", f -> bit(f.people(0, 1, 51)), 0, 2));
        all.add(new Refused("people(0, -1, 1)", f -> bit(f.people(0, -1, 1)), 0, 2));
        all.add(new Refused("border(0, 3, 1)", f -> f.border(0, 3, 1), -1, 1));
        all.add(new Refused("border(1, 1, 1)", f -> f.border(1, 1, 1), -1, 1));
        all.add(new Refused("border(0, 2, 501)", f -> f.border(0, 2, 501), -1, 2));
        all.add(new Refused("guard(2, 1)", f -> bit(f.guard(2, 1)), 0, 1));
        all.add(new Refused("guard(0, 10)", f -> bit(f.guard(0, 10)), 0, 2));
        all.add(new Refused("weight(201)", f -> bit(f.weight(201)), 0, 2));
        all.add(new Refused("weight(-1)", f -> bit(f.weight(-1)), 0, 2));
        all.add(new Refused("edict(3, 0, 10)", f -> f.edict(3, 0, 10), -1, 1));
        all.add(new Refused("edict(0, 100, 10)", f -> f.edict(0, 100, 10), -1, 2));
        all.add(new Refused("edict(0, 0, 21)", f -> f.edict(0, 0, 21), -1, 2));
        all.add(new Refused("best(4)", f -> f.best(4), -1, 2));
        all.add(new Refused("best(-1)", f -> f.best(-1), -1, 2));
        all.add(new Refused("pass()", f -> f.pass(), -1, 5));
        all.add(new Refused("store(3, 1)", f -> f.store(3, 1), -1, 1));
        all.add(new Refused("store(0, 1000001)", f -> f.store(0, 1_000_001), -1, 2));
        all.add(new Refused("moves(2, 1, false)", f -> f.moves(2, 1, false), -1, 1));
        all.add(new Refused("moves(0, 0, false)", f -> f.moves(0, 0, false), -1, 2));
        all.add(new Refused("moves(0, 1000001, true)", f -> f.moves(0, 1_000_001, true), -1, 2));
        all.add(new Refused("counted(2, 1)", f -> f.counted(2, 1), -1, 1));
        all.add(new Refused("counted(0, -1)", f -> f.counted(0, -1), -1, 2));
        all.add(new Refused("counted(1, 1000000001)", f -> f.counted(1, 1_000_000_001), -1, 2));
        return all;
    }

    private static List<Refused> ofAFullFarm() {
        List<Refused> all = new ArrayList<>();
        all.add(new Refused("province(1, 1)", f -> f.province(1, 1), -1, 3));
        all.add(new Refused("border(0, 1, 1)", f -> f.border(0, 1, 1), -1, 3));
        all.add(new Refused("store(0, 1)", f -> f.store(0, 1), -1, 3));
        all.add(new Refused("pass()", f -> f.pass(), -1, 5));
        all.add(new Refused("edict(10, 0, 20)", f -> f.edict(10, 0, 20), -1, 1));
        all.add(new Refused("edict(0, 0, 301)", f -> f.edict(0, 0, 301), -1, 2));
        return all;
    }

    private static void changesNothing(Refused refused, boolean full) {
        CHECK.promise(refused.call() + (full ? " refused in a full farm" : " refused"));
        SaltFarm left = full ? Farms.full() : ordinary();
        SaltFarm led = full ? Farms.full() : ordinary();
        CHECK.refused(led, refused.call(), refused.run().applyAsLong(led), refused.answer(), refused.trouble());
        CHECK.due("where()", led.where(), -1);
        compare("behind it", left, led);
        goOn(left, led);
        compare("further on", left, led);
    }

    private static void compare(String when, SaltFarm left, SaltFarm led) {
        List<Long> want = new ArrayList<>();
        List<Long> got = new ArrayList<>();
        answers(left, want);
        answers(led, got);
        for (int i = 0; i < want.size(); i++) {
            CHECK.due("answer " + i + " " + when, got.get(i), want.get(i));
        }
    }

    /** All that can be asked without a change, but for TROUBLE; it takes some 130 calls at most. */
    private static void answers(SaltFarm farm, List<Long> row) {
        for (int what = 0; what <= 6; what++) {
            row.add((long) farm.count(what));
        }
        row.add((long) farm.fault());
        row.add(farm.crown());
        row.add(farm.lost());
        row.add((long) farm.worst());
        for (int p = 0; p < farm.count(0); p++) {
            row.add((long) farm.force(p, 0));
            row.add((long) farm.price(p, 99, false));
            row.add((long) farm.price(p, 99, true));
            row.add((long) farm.cheap(p));
            row.add((long) farm.brought(p, 0));
            row.add(farm.taken(p));
        }
        for (int b = 0; b < farm.count(1); b++) {
            row.add(farm.carried(b));
            row.add((long) farm.stand(b));
        }
        for (int s = 0; s < farm.count(4); s++) {
            row.add(farm.missing(s));
        }
    }

    private static void goOn(SaltFarm left, SaltFarm led) {
        CHECK.due("feed() behind it", Check.feed(led, "+1"), Check.feed(left, "+1"));
        List<ToLongFunction<SaltFarm>> calls = new ArrayList<>();
        calls.add(f -> f.edict(0, 2, f.count(5)));
        calls.add(f -> f.province(30, 10));
        calls.add(f -> f.border(0, 2, 3));
        calls.add(f -> bit(f.guard(1, 1)));
        calls.add(f -> f.store(1, 70));
        calls.add(f -> f.moves(0, 3, true));
        calls.add(f -> f.moves(0, 4, false));
        calls.add(f -> f.pass());
        for (int i = 0; i < 8; i++) {
            int store = i;
            calls.add(f -> f.counted(store, 2 * store));
        }
        calls.add(f -> f.pass());
        calls.add(f -> f.best(1));
        for (int i = 0; i < calls.size(); i++) {
            long want = calls.get(i).applyAsLong(left);
            CHECK.due("call " + i + " behind it", calls.get(i).applyAsLong(led), want);
            CHECK.due("trouble() of it", led.trouble(), left.trouble());
            CHECK.due("where() of it", led.where(), left.where());
        }
    }
}
