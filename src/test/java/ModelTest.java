import java.util.ArrayList;
import java.util.List;
import java.util.Random;

/** Long runs of calls by lot (always the same ones), each answer against the model's. */
public final class ModelTest {
    private static final Check CHECK = new Check();
    private static final String[] PARTS = {
        "price", "duty", "when", "and", "is", "year", "mouths", "need", "old", "salt", "(", ")", "+", "-", "*", "/",
        "<", ">", "=", ";", "7", "12", "0", "9999", "12345", "abcdefghi", "!", " ", "  ",
    };

    private final Random lot;
    private final SaltFarm farm = new SaltFarm();
    private final Model model = new Model();
    private final int[] stand = new int[16];
    private int stands = 0;
    private int trouble = 0;
    private int fault = 0;
    private int place = -1;

    private ModelTest(long seed) {
        lot = new Random(seed);
    }

    public static void main(String[] args) {
        int runs = args.length > 0 ? Integer.parseInt(args[0]) : 40;
        for (int seed = 0; seed < runs; seed++) {
            CHECK.promise("run " + seed);
            new ModelTest(seed).run();
        }
        for (int seed = 0; seed < 100 * runs; seed++) {
            CHECK.promise("text " + seed);
            text(new Random(seed));
        }
        CHECK.end();
    }

    private static void text(Random lot) {
        SaltFarm farm = new SaltFarm();
        farm.province(1, 1);
        String text = lot.nextInt(4) == 0 ? heap(lot) : spoilt(lot, edict(lot, 1 + lot.nextInt(14)));
        text = text.length() > 300 ? text.substring(0, 300) : text;
        int[] want = Model.faultOf(text);
        int answer = Check.tell(farm, 0, 0, text);
        CHECK.due("edict '" + text + "'", answer, want[0] == 0 ? 0 : -1);
        CHECK.due("fault '" + text + "'", farm.fault(), want[0]);
        CHECK.due("where '" + text + "'", farm.where(), want[1]);
    }

    private void run() {
        int provinces = 1 + lot.nextInt(7);
        for (int i = 0; i < provinces; i++) {
            province();
        }
        for (int i = lot.nextInt(2 * provinces); i > 0; i--) {
            border();
        }
        for (int i = 0; i < provinces; i++) {
            edictOf(i, 0);
        }
        for (int calls = 0; calls < 150; calls++) {
            call();
            CHECK.due("trouble()", farm.trouble(), trouble);
            CHECK.due("fault()", farm.fault(), fault);
            CHECK.due("where()", farm.where(), trouble == 4 ? place : -1);
        }
    }

    private void call() {
        int last = model.people.size();
        int p = lot.nextInt(last);
        switch (lot.nextInt(20)) {
            case 0 -> people(p);
            case 1, 2 -> border();
            case 3, 4 -> guard();
            case 5 -> weight();
            case 6, 7, 8 -> edictOf(p, lot.nextInt(8));
            case 9 -> pass();
            case 10 -> best();
            case 11 -> {
                if (last < 8) {
                    province();
                }
            }
            case 12 -> {
                int y = lot.nextInt(12);
                CHECK.due("force", farm.force(p, y), model.force(p, y));
                CHECK.due("price", farm.price(p, y, false), model.price(p, y, false));
                CHECK.due("duty", farm.price(p, y, true), model.price(p, y, true));
            }
            case 13 -> {
                CHECK.due("crown()", farm.crown(), model.crown());
                CHECK.due("lost()", farm.lost(), model.lost());
            }
            case 14 -> {
                for (int b = 0; b < model.borders.size(); b++) {
                    CHECK.due("carried(" + b + ")", farm.carried(b), model.carried(b));
                }
            }
            default -> ask(p, lot.nextInt(last));
        }
    }

    private void ask(int p, int q) {
        CHECK.due("brought(" + p + ", " + q + ")", farm.brought(p, q), model.brought(p, q));
        CHECK.due("cheap(" + p + ")", farm.cheap(p), model.cheap(p));
        CHECK.due("source(" + p + ")", farm.source(p), model.source(p));
        CHECK.due("taken(" + p + ")", farm.taken(p), model.taken(p));
        List<Integer> way = model.way(p);
        CHECK.due("way(" + p + ")", farm.way(p), way.size());
        for (int i = 0; i <= way.size(); i++) {
            CHECK.due("wayAt(" + p + ", " + i + ")", farm.wayAt(p, i), i < way.size() ? way.get(i) : -1);
        }
    }

    private void province() {
        int mouths = lot.nextInt(50);
        int need = lot.nextInt(51);
        CHECK.due("province()", farm.province(mouths, need), model.people.size());
        model.people.add(new int[] {mouths, need});
        trouble = 0;
    }

    private void people(int p) {
        int mouths = lot.nextInt(50);
        int need = lot.nextInt(52);
        trouble = need > 50 ? 2 : 0;
        CHECK.due("people()", farm.people(p, mouths, need), trouble == 0);
        if (trouble == 0) {
            model.people.set(p, new int[] {mouths, need});
        }
    }

    private void border() {
        int one = lot.nextInt(model.people.size() + 1);
        int other = lot.nextInt(model.people.size());
        int risk = lot.nextInt(10) == 0 ? 501 : 1 + lot.nextInt(6) * 5;
        boolean none = one == other || one == model.people.size();
        trouble = none ? 1 : risk > 500 ? 2 : model.borders.size() >= 16 ? 3 : 0;
        CHECK.due("border()", farm.border(one, other, risk), trouble == 0 ? model.borders.size() : -1);
        if (trouble == 0) {
            model.borders.add(new int[] {one, other, risk, 0});
        }
    }

    private void guard() {
        int border = lot.nextInt(17);
        int guards = lot.nextInt(11);
        trouble = border >= model.borders.size() ? 1 : guards > 9 ? 2 : 0;
        CHECK.due("guard()", farm.guard(border, guards), trouble == 0);
        if (trouble == 0) {
            model.borders.get(border)[3] = guards;
        }
    }

    private void weight() {
        int weight = lot.nextInt(4) * 5;
        CHECK.due("weight()", farm.weight(weight), true);
        model.weight = weight;
        trouble = 0;
    }

    private void pass() {
        if (model.year < 9) {
            model.year++;
            trouble = 0;
            CHECK.due("pass()", farm.pass(), model.year);
        }
    }

    private void best() {
        int borders = model.borders.size();
        int guards = lot.nextInt(borders < 5 ? 4 : borders < 8 ? 3 : 2);
        CHECK.due("best(" + guards + ")", farm.best(guards), model.best(guards, stand));
        stands = borders;
        trouble = 0;
        for (int b = 0; b <= 16; b++) {
            CHECK.due("stand(" + b + ")", farm.stand(b), b < stands ? stand[b] : -1);
        }
    }

    private void edictOf(int p, int year) {
        String text = lot.nextInt(4) == 0 ? spoilt(lot, edict(lot, 2)) : edict(lot, 1 + lot.nextInt(4));
        text = text.length() > 300 ? text.substring(0, 300) : text;
        int[] want = Model.faultOf(text);
        fault = want[0];
        place = want[1];
        trouble = fault != 0 ? 4 : model.edicts.size() >= 30 ? 3 : 0;
        CHECK.due("edict " + text, Check.tell(farm, p, year, text), trouble == 0 ? model.edicts.size() : -1);
        if (trouble == 0) {
            List<String> tokens = new ArrayList<>();
            Model.split(text, tokens, new ArrayList<>());
            model.edicts.add(new Model.Edict(p, year, tokens));
        }
    }

    // ---- texts by lot

    private static String edict(Random lot, int lines) {
        StringBuilder text = new StringBuilder();
        for (int i = 0; i < lines; i++) {
            text.append(i == 0 ? "" : ";").append(lot.nextInt(3) == 0 ? "duty" : "price");
            int tests = lot.nextInt(2) * lot.nextInt(lot.nextInt(8) == 0 ? 6 : 3);
            for (int t = 0; t < tests; t++) {
                text.append(t == 0 ? " when " : " and ").append(sum(lot, 1)).append("<>=".charAt(lot.nextInt(3)));
                text.append(sum(lot, 1));
            }
            text.append(" is ").append(sum(lot, lot.nextInt(20) == 0 ? 12 : 2));
        }
        return text.toString();
    }

    private static String sum(Random lot, int depth) {
        StringBuilder text = new StringBuilder(one(lot, depth));
        int most = lot.nextInt(60) == 0 ? 70 : 3;
        for (int i = lot.nextInt(most); i > 0; i--) {
            text.append("+-*/".charAt(lot.nextInt(4))).append(one(lot, most > 3 ? 0 : depth));
        }
        return text.toString();
    }

    private static String one(Random lot, int depth) {
        String[] names = {"year", "mouths", "need", "old"};
        int kind = lot.nextInt(depth > 4 ? 20 : 6);
        if (depth > 0 && (kind == 0 || kind > 5)) {
            return "(" + sum(lot, depth - 1) + ")";
        }
        return kind < 3 ? names[lot.nextInt(4)] : String.valueOf(lot.nextInt(lot.nextBoolean() ? 10 : 400));
    }

    private static String heap(Random lot) {
        StringBuilder text = new StringBuilder();
        for (int i = lot.nextInt(12); i > 0; i--) {
            text.append(PARTS[lot.nextInt(PARTS.length)]).append(lot.nextInt(3) == 0 ? "" : " ");
        }
        return text.toString();
    }

    private static String spoilt(Random lot, String text) {
        int from = lot.nextInt(text.length() + 1);
        int kind = lot.nextInt(5);
        if (kind == 0) {
            return text.substring(0, from);
        }
        String part = " " + PARTS[lot.nextInt(PARTS.length)] + " ";
        int to = Math.min(text.length(), from + lot.nextInt(3));
        return kind == 1 ? text : text.substring(0, from) + part + text.substring(to);
    }
}
