import java.io.IOException;
import java.lang.reflect.Field;
import java.lang.reflect.Method;
import java.lang.reflect.Modifier;
import java.nio.file.Files;
import java.nio.file.Path;
import java.util.Arrays;
import java.util.Set;
import java.util.TreeSet;
import java.util.regex.Matcher;
import java.util.regex.Pattern;

/** The public face, and those rules of LANGUAGE.md that can be seen from outside or by a word in the source. */
public final class FaceTest {
    private static final Check CHECK = new Check();
    private static final String[] FACE = {
        "int province(int, int)", "boolean people(int, int, int)", "int border(int, int, int)",
        "boolean guard(int, int)", "boolean weight(int)", "int feed(int, int, int, int, int)",
        "int edict(int, int, int)", "int fault()", "int where()", "int force(int, int)",
        "int price(int, int, boolean)", "int brought(int, int)", "int cheap(int)", "int source(int)",
        "long taken(int)", "long crown()", "long lost()", "long carried(int)", "int way(int)",
        "int wayAt(int, int)", "long best(int)", "int stand(int)", "int pass()", "int store(int, int)",
        "int moves(int, int, boolean)", "int counted(int, int)", "long missing(int)", "int worst()",
        "int count(int)", "int trouble()",
    };

    public static void main(String[] args) throws IOException {
        members();
        classesInside();
        words(Files.readString(Path.of("src/main/java/SaltFarm.java")));
        wildNumbers();
        CHECK.end();
    }

    private static void members() {
        CHECK.promise("rule 1");
        Set<String> seen = new TreeSet<>();
        Set<String> publicNames = new TreeSet<>();
        for (Method method : SaltFarm.class.getDeclaredMethods()) {
            if (Modifier.isPublic(method.getModifiers())) {
                seen.add(signature(method));
                publicNames.add(method.getName());
            } else {
                CHECK.due(method + " is private", Modifier.isPrivate(method.getModifiers()), true);
            }
        }
        Set<String> face = new TreeSet<>(Arrays.asList(FACE));
        CHECK.due("the face " + seen, seen.equals(face), true);
        for (Method method : SaltFarm.class.getDeclaredMethods()) {
            boolean hides = !Modifier.isPublic(method.getModifiers()) && publicNames.contains(method.getName());
            CHECK.due(method + " bears a public name", hides, false);
        }
        for (Field field : SaltFarm.class.getDeclaredFields()) {
            boolean isNone = field.getName().equals("NONE");
            CHECK.due(field + " is private", Modifier.isPrivate(field.getModifiers()), !isNone);
        }
        CHECK.due("NONE", SaltFarm.NONE, -1);
        CHECK.due("final", Modifier.isFinal(SaltFarm.class.getModifiers()), true);
        CHECK.due("constructors", SaltFarm.class.getDeclaredConstructors().length, 1);
    }

    private static String signature(Method method) {
        StringBuilder text = new StringBuilder();
        text.append(method.getReturnType().getName()).append(' ').append(method.getName()).append('(');
        Class<?>[] types = method.getParameterTypes();
        for (int i = 0; i < types.length; i++) {
            text.append(i == 0 ? "" : ", ").append(types[i].getName());
        }
        return text.append(')').toString();
    }

    private static void classesInside() {
        CHECK.promise("rules 2, 5, 11");
        Class<?>[] inside = SaltFarm.class.getDeclaredClasses();
        CHECK.due("some twelve classes", inside.length <= 11, true);
        for (Class<?> each : inside) {
            CHECK.due(each + " is static", Modifier.isStatic(each.getModifiers()), true);
            CHECK.due(each + " is private", Modifier.isPrivate(each.getModifiers()), true);
            fields(each);
        }
        fields(SaltFarm.class);
    }

    private static void fields(Class<?> each) {
        int own = 0;
        for (Field field : each.getDeclaredFields()) {
            boolean isStatic = Modifier.isStatic(field.getModifiers());
            CHECK.due(field + " is final", !isStatic || Modifier.isFinal(field.getModifiers()), true);
            own += isStatic ? 0 : 1;
        }
        CHECK.due(each + " has some twenty fields", own <= 20, true);
        for (Method method : each.getDeclaredMethods()) {
            CHECK.due(method + " has at most seven parameters", method.getParameterCount() <= 7, true);
            CHECK.due(method + " is no lambda", method.isSynthetic(), false);
        }
    }

    private static void words(String source) {
        CHECK.promise("rules 4, 6");
        String bare = source.replaceAll("(?s)/\\*.*?\\*/", "").replaceAll("//.*", "");
        Pattern no = Pattern.compile("\\b(throw|throws|try|catch|synchronized|assert|import|package|record|instanceof|"
            + "System\\.(?!arraycopy)\\w+|Thread|Random|\\w+Exact|protected|native|var)\\b|->|::");
        Matcher found = no.matcher(bare);
        while (found.find()) {
            CHECK.due("the word " + found.group(), 1, 0);
        }
        CHECK.due("signs 1 to 127", source.chars().allMatch(c -> c >= 1 && c <= 127), true);
    }

    /** Rule 7: no call throws, whatever its arguments. */
    private static void wildNumbers() {
        CHECK.promise("rule 7");
        int[] wild = {Integer.MIN_VALUE, -300, -2, -1, 0, 1, 2, 9, 10, 16, 99, 100, 300, 301, Integer.MAX_VALUE};
        SaltFarm farm = new SaltFarm();
        for (int round = 0; round < 3; round++) {
            for (int a : wild) {
                for (int b : wild) {
                    wildCalls(farm, a, b);
                }
            }
        }
        CHECK.due("count(0)", farm.count(0), 10);
    }

    private static void wildCalls(SaltFarm farm, int a, int b) {
        farm.province(a, b);
        farm.people(a, b, b);
        farm.border(a, b, 1);
        farm.border(0, 1, a);
        farm.guard(a, b);
        farm.weight(a);
        farm.feed(a, b, a, b, a);
        farm.edict(a, b, b);
        farm.edict(0, a, b);
        farm.force(a, b);
        farm.price(a, b, a < b);
        farm.brought(a, b);
        farm.cheap(a);
        farm.source(a);
        farm.taken(a);
        farm.crown();
        farm.lost();
        farm.carried(a);
        farm.way(a);
        farm.wayAt(a, b);
        farm.best(a < 3 ? a : b % 3);
        farm.stand(a);
        farm.store(a, b);
        farm.moves(a, b, a < b);
        farm.counted(a, b);
        farm.pass();
        farm.missing(a);
        farm.worst();
        farm.count(a);
    }
}
