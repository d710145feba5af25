import java.util.ArrayList;
import java.util.Arrays;
import java.util.List;

/**
 * The document's terms III to V once more, as slowly and plainly as can be: an automaton over the text instead of a
 * descent, prices by looking back each time, every way walked, every laying of guards tried.
 */
final class Model {
    record Edict(int province, int year, List<String> tokens) { }

    record Way(int cost, List<Integer> borders) { }

    final List<int[]> people = new ArrayList<>();
    final List<int[]> borders = new ArrayList<>();
    final List<Edict> edicts = new ArrayList<>();
    int weight = 10;
    int year = 0;

    // ---- texts

    /** {fault, place}; {0, -1} if there is none. */
    static int[] faultOf(String text) {
        List<String> tokens = new ArrayList<>();
        List<Integer> places = new ArrayList<>();
        boolean ended = split(text, tokens, places);
        String state = "line";
        int side = 0;
        int lines = 0;
        int tests = 0;
        int open = 0;
        int signs = 0;
        for (int i = 0; i < tokens.size(); i++) {
            String token = tokens.get(i);
            int place = places.get(i);
            boolean operand = token.matches("[0-9]+|year|mouths|need|old|[(]");
            switch (state) {
                case "line" -> {
                    if (!token.matches("price|duty")) {
                        return new int[] {1, place};
                    }
                    lines++;
                    if (lines == 13) {
                        return new int[] {3, place};
                    }
                    tests = 0;
                    state = "kind";
                }
                case "kind" -> {
                    if (!token.matches("when|is")) {
                        return new int[] {1, place};
                    }
                    side = token.equals("is") ? 2 : 0;
                    state = "operand";
                    tests = side == 0 ? 1 : tests;
                }
                case "operand" -> {
                    if (!operand) {
                        boolean word = token.matches("[a-z]+") && !token.matches("price|duty|when|and|is");
                        return new int[] {word ? 2 : 1, place};
                    }
                    if (side == 0 && tests == 5) {
                        return new int[] {3, place};
                    }
                    if (token.equals("(")) {
                        open++;
                        if (open == 9) {
                            return new int[] {3, place};
                        }
                    } else {
                        state = "behind";
                    }
                }
                default -> {
                    if (token.matches("[-+*/]")) {
                        signs++;
                        if (signs == 61) {
                            return new int[] {3, place};
                        }
                        state = "operand";
                    } else if (token.equals(")") && open > 0) {
                        open--;
                    } else if (open > 0) {
                        return new int[] {1, place};
                    } else if (side == 0 && token.matches("[<>=]")) {
                        side = 1;
                        state = "operand";
                    } else if (side == 1 && token.equals("and")) {
                        side = 0;
                        tests++;
                        state = "operand";
                    } else if (side == 1 && token.equals("is")) {
                        side = 2;
                        state = "operand";
                    } else if (side == 2 && token.equals(";")) {
                        state = "line";
                    } else {
                        return new int[] {1, place};
                    }
                }
            }
        }
        if (!ended) {
            return new int[] {1, places.get(tokens.size())};
        }
        boolean whole = state.equals("behind") && open == 0 && side == 2;
        return whole ? new int[] {0, -1} : new int[] {1, text.length()};
    }

    /** False if a byte begins no token: its place is then one more behind those of the tokens. */
    static boolean split(String text, List<String> tokens, List<Integer> places) {
        int at = 0;
        while (at < text.length()) {
            if (text.charAt(at) == ' ') {
                at++;
                continue;
            }
            java.util.regex.Matcher run = java.util.regex.Pattern.compile("[a-z]+|[0-9]+|[-<>=+*/();]")
                .matcher(text).region(at, text.length());
            places.add(at);
            if (!run.lookingAt() || !run.group().matches("[a-z]{1,8}|[0-9]{1,4}|[^a-z0-9]")) {
                return false;
            }
            tokens.add(run.group());
            at = run.end();
        }
        return true;
    }

    // ---- prices

    int force(int province, int when) {
        int found = -2;
        for (int from = 0; from <= when; from++) {
            for (int i = 0; i < edicts.size(); i++) {
                if (edicts.get(i).province() == province && edicts.get(i).year() == from) {
                    found = i;
                }
            }
        }
        return found;
    }

    int price(int province, int when, boolean duty) {
        int value = 0;
        for (int y = 0; y <= when; y++) {
            int number = force(province, y);
            value = number < 0 ? 0 : valueOf(edicts.get(number).tokens(), province, y, duty, value);
        }
        return value;
    }

    private int valueOf(List<String> tokens, int province, int when, boolean duty, int old) {
        int most = duty ? people.get(province)[1] : 1000;
        List<String> line = new ArrayList<>();
        List<String> all = new ArrayList<>(tokens);
        all.add(";");
        for (String token : all) {
            if (!token.equals(";")) {
                line.add(token);
                continue;
            }
            int is = line.indexOf("is");
            boolean holds = line.get(0).equals(duty ? "duty" : "price");
            int from = 2;
            for (int i = 2; i <= is && holds; i++) {
                if (i == is || line.get(i).equals("and")) {
                    holds = holds(line.subList(from, i), province, when, old);
                    from = i + 1;
                }
            }
            if (holds) {
                long value = reckon(line.subList(is + 1, line.size()), province, when, old);
                return (int) Math.max(0, Math.min(most, value));
            }
            line.clear();
        }
        return 0;
    }

    private boolean holds(List<String> test, int province, int when, int old) {
        for (int i = 0; i < test.size(); i++) {
            if (test.get(i).matches("[<>=]")) {
                long left = reckon(test.subList(0, i), province, when, old);
                long right = reckon(test.subList(i + 1, test.size()), province, when, old);
                return switch (test.get(i)) {
                    case "<" -> left < right;
                    case ">" -> left > right;
                    default -> left == right;
                };
            }
        }
        throw new IllegalStateException(test.toString());
    }

    /** Splits at the last sign of least rank outside brackets. */
    private long reckon(List<String> sum, int province, int when, int old) {
        for (String signs : new String[] {"[-+]", "[*/]"}) {
            int open = 0;
            for (int i = sum.size() - 1; i > 0; i--) {
                open += sum.get(i).equals(")") ? 1 : sum.get(i).equals("(") ? -1 : 0;
                if (open == 0 && sum.get(i).matches(signs)) {
                    long left = reckon(sum.subList(0, i), province, when, old);
                    long right = reckon(sum.subList(i + 1, sum.size()), province, when, old);
                    long result = switch (sum.get(i)) {
                        case "+" -> left + right;
                        case "-" -> left - right;
                        case "*" -> left * right;
                        default -> right == 0 ? 0 : left / right;
                    };
                    return Math.max(-1_000_000, Math.min(1_000_000, result));
                }
            }
        }
        return switch (sum.get(0)) {
            case "(" -> reckon(sum.subList(1, sum.size() - 1), province, when, old);
            case "year" -> when;
            case "mouths" -> people.get(province)[0];
            case "need" -> people.get(province)[1];
            case "old" -> old;
            default -> Long.parseLong(sum.get(0));
        };
    }

    // ---- the market of this year

    private int toll(int border) {
        return borders.get(border)[2] + borders.get(border)[3] * weight;
    }

    /** The way to take, or null. */
    Way wayBetween(int from, int to) {
        return walk(from, to, new boolean[people.size()], 0, new ArrayList<>(), null);
    }

    private Way walk(int at, int to, boolean[] seen, int cost, List<Integer> path, Way best) {
        if (at == to) {
            boolean better = best == null || cost < best.cost()
                || cost == best.cost() && before(path, best.borders());
            return better ? new Way(cost, new ArrayList<>(path)) : best;
        }
        seen[at] = true;
        for (int i = 0; i < borders.size(); i++) {
            int[] border = borders.get(i);
            int next = border[0] == at ? border[1] : border[1] == at ? border[0] : -1;
            if (next >= 0 && !seen[next]) {
                path.add(i);
                best = walk(next, to, seen, cost + toll(i), path, best);
                path.remove(path.size() - 1);
            }
        }
        seen[at] = false;
        return best;
    }

    private static boolean before(List<Integer> one, List<Integer> other) {
        for (int i = 0; i < Math.min(one.size(), other.size()); i++) {
            if (!one.get(i).equals(other.get(i))) {
                return one.get(i) < other.get(i);
            }
        }
        return false;
    }

    int brought(int from, int to) {
        Way way = wayBetween(from, to);
        return way == null ? -2 : price(from, year, false) + way.cost();
    }

    int cheap(int province) {
        int least = Integer.MAX_VALUE;
        for (int q = 0; q < people.size(); q++) {
            int cost = brought(q, province);
            least = cost == -2 ? least : Math.min(least, cost);
        }
        return least;
    }

    int source(int province) {
        int least = cheap(province);
        if (price(province, year, false) == least) {
            return province;
        }
        int q = 0;
        while (brought(q, province) != least) {
            q++;
        }
        return q;
    }

    long rest(int province) {
        return (long) people.get(province)[0] * (people.get(province)[1] - price(province, year, true));
    }

    long taken(int province) {
        long sum = (long) people.get(province)[0] * price(province, year, true) * price(province, year, false);
        for (int p = 0; p < people.size(); p++) {
            if (source(p) == province) {
                sum += rest(p) * price(province, year, false);
            }
        }
        return sum;
    }

    long crown() {
        long sum = 0;
        for (int p = 0; p < people.size(); p++) {
            sum += taken(p);
        }
        return sum;
    }

    long lost() {
        long sum = 0;
        for (int p = 0; p < people.size(); p++) {
            if (source(p) != p) {
                sum += rest(p) * (price(p, year, false) - price(source(p), year, false));
            }
        }
        return sum;
    }

    List<Integer> way(int province) {
        return wayBetween(source(province), province).borders();
    }

    long carried(int border) {
        long sum = 0;
        for (int p = 0; p < people.size(); p++) {
            sum += way(p).contains(border) ? rest(p) : 0;
        }
        return sum;
    }

    /** The sum of TAKEN by the best guards; how they stand is written into the row. */
    long best(int guards, int[] stand) {
        int[] kept = new int[borders.size()];
        for (int i = 0; i < kept.length; i++) {
            kept[i] = borders.get(i)[3];
        }
        long[] most = {-1};
        lay(0, guards, new int[kept.length], most, stand);
        for (int i = 0; i < kept.length; i++) {
            borders.get(i)[3] = kept[i];
        }
        return most[0];
    }

    private void lay(int border, int left, int[] laid, long[] most, int[] stand) {
        if (border < laid.length) {
            for (int n = 0; n <= Math.min(9, left); n++) {
                laid[border] = n;
                lay(border + 1, left - n, laid, most, stand);
            }
            return;
        }
        if (left > 0 && laid.length > 0) {
            return;
        }
        for (int i = 0; i < laid.length; i++) {
            borders.get(i)[3] = laid[i];
        }
        long sum = crown();
        int[] now = Arrays.copyOf(stand, laid.length);
        if (sum > most[0] || sum == most[0] && Arrays.compare(laid, now) > 0) {
            most[0] = sum;
            System.arraycopy(laid, 0, stand, 0, laid.length);
        }
    }
}
