import java.io.IOException;
import java.nio.file.Files;
import java.nio.file.Path;

/** Counts wrong answers, and tells edicts as texts. */
final class Check {
    private static final Path DOCUMENT = Path.of("../shared/DOC.md");

    private int wrong = 0;
    private int asked = 0;
    private String promise = "";
    private String document = null;

    void promise(String name) {
        promise = name;
    }

    /** What follows tests this sentence; it is looked up, so that the tests and the document stay together. */
    void sentence(String quote) {
        promise = "'" + quote + "'";
        due("the document has this sentence", document().contains(quote), true);
    }

    private String document() {
        if (document == null) {
            try {
                document = Files.readString(DOCUMENT).replaceAll("\\s+", " ");
            } catch (IOException e) {
                document = "";
                System.out.println("no document at " + DOCUMENT);
            }
        }
        return document;
    }

    void due(String call, long got, long want) {
        asked++;
        if (got != want) {
            wrong++;
            System.out.println(promise + ": " + call + " answered " + got + ", due is " + want);
        }
    }

    void due(String call, boolean got, boolean want) {
        due(call, got ? 1 : 0, want ? 1 : 0);
    }

    /** A refusal: the answer, and the trouble behind it. */
    void refused(SaltFarm farm, String call, long got, long want, int trouble) {
        due(call, got, want);
        due(call + " trouble()", farm.trouble(), trouble);
    }

    void refused(SaltFarm farm, String call, boolean got, boolean want, int trouble) {
        refused(farm, call, got ? 1 : 0, want ? 1 : 0, trouble);
    }

    /** A call that may be refused and wasn't. */
    void granted(SaltFarm farm, String call, long got, long want) {
        refused(farm, call, got, want, 0);
    }

    void granted(SaltFarm farm, String call, boolean got) {
        refused(farm, call, got, true, 0);
    }

    void end() {
        System.out.println(wrong == 0 ? asked + " answers are as due" : wrong + " answers are not as due");
        if (wrong != 0) {
            System.exit(1);
        }
    }

    /** Feeds a text, filled up with blanks to a whole number of feeds; answers what the last feed did. */
    static int feed(SaltFarm farm, String text) {
        int answer = 0;
        for (int from = 0; from < text.length(); from += 20) {
            int[] numbers = numbersOf(text, from);
            answer = farm.feed(numbers[0], numbers[1], numbers[2], numbers[3], numbers[4]);
        }
        return answer;
    }

    static int[] numbersOf(String text, int from) {
        int[] numbers = new int[5];
        for (int i = 0; i < 20; i++) {
            int sign = from + i < text.length() ? text.charAt(from + i) : ' ';
            numbers[i / 4] = numbers[i / 4] << 8 | sign & 255;
        }
        return numbers;
    }

    static int tell(SaltFarm farm, int province, int year, String text) {
        feed(farm, text);
        return farm.edict(province, year, text.length());
    }

    static String times(String text, int n) {
        StringBuilder all = new StringBuilder();
        for (int i = 0; i < n; i++) {
            all.append(text);
        }
        return all.toString();
    }
}
