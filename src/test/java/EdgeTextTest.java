/** Term III, how a text is read and where its first FAULT stands, sentence by sentence. */
public final class EdgeTextTest {
    private static final Check CHECK = new Check();
    private static final String LINE = "duty is 1;";
    private static final String TEST = "1<2 and ";

    public static void main(String[] args) {
        blanks();
        words();
        numbers();
        singleSigns();
        everyByteFirst();
        everyByteAsOne();
        everyByteBehind();
        lines();
        kinds();
        when();
        tests();
        sums();
        ones();
        names();
        firstFromTheLeft();
        tokenThatGoesOn();
        end();
        noName();
        wordsOfTheLanguage();
        thirteenthLine();
        fifthTest();
        ninthOpen();
        manySigns();
        manySignsOverTheText();
        leastNumberOfOnePlace();
        CHECK.end();
    }

    private static void sound(String text) {
        fault(text, 0, -1);
    }

    private static void form(String text, int place) {
        fault(text, 1, place);
    }

    private static void noName(String text, int place) {
        fault(text, 2, place);
    }

    private static void many(String text, int place) {
        fault(text, 3, place);
    }

    private static void fault(String text, int fault, int place) {
        SaltFarm farm = Farms.withProvinces(1);
        int answer = Check.tell(farm, 0, 0, text);
        String call = "\"" + text + "\" ";
        CHECK.due(call + "edict()", answer, fault == 0 ? 0 : -1);
        CHECK.due(call + "trouble()", farm.trouble(), fault == 0 ? 0 : 4);
        CHECK.due(call + "fault()", farm.fault(), fault);
        CHECK.due(call + "where()", farm.where(), place);
        CHECK.due(call + "count(2)", farm.count(2), fault == 0 ? 1 : 0);
    }

    private static void blanks() {
        CHECK.sentence("blanks, 32, part TOKENS and mean nothing else");
        sound("  price   when   1   <   2   and   3   >   2   is   (   1   )   ;   duty   is   1   ");
        sound("price when 1<2and 3>2is(1);duty is 1");
        form("pri ce is 1", 0);
        form("p rice is 1", 0);
        form("price i s 1", 6);
        form("price is 1 2", 11);
        form("pricewhen 1<2 is 1", 0);
        form("price whenyear<2 is 1", 6);
        form("price isyear", 6);
        noName("price is ye ar", 9);
        form("price is year year", 14);
        form("dutyis 1", 0);
    }

    private static void words() {
        CHECK.sentence("WORDS of 1 to 8 small letters that stand together");
        noName("price is x", 9);
        noName("price is abcdefg", 9);
        noName("price is abcdefgh", 9);
        form("price is abcdefghi", 9);
        form("price is abcdefghij", 9);
        noName("price is abcdefgh i", 9);
        noName("price is abcdefgh1", 9);
        noName("price is zzzzzzzz+1", 9);
        form("price is zzzzzzzzz+1", 9);
        form("price is yearyeary", 9);
        form("price is yearX", 13);
        form("price is Year", 9);
        form("PRICE is 1", 0);
        form("price IS 1", 6);
        form("pricE is 1", 0);
    }

    private static void numbers() {
        CHECK.sentence("NUMBERS of 1 to 4 digits that do");
        sound("price is 0");
        sound("price is 9");
        sound("price is 0000");
        sound("price is 9999");
        form("price is 00000", 9);
        form("price is 10000", 9);
        form("price is 123456789", 9);
        form("price is 1234 5", 14);
        form("price is 1234year", 13);
        form("price is 1,000", 10);
        form("price is 1.5", 10);
        sound("price is 1234+5678");
        form("price is 1234+56789", 14);
        form("price when 12345<1 is 1", 11);
        form("price when 1<12345 is 1", 13);
        form("12345 is 1", 0);
    }

    private static void singleSigns() {
        CHECK.sentence("single ones of < > = + - * / ( ) ;");
        form("price when 1<=2 is 1", 13);
        form("price when 1>=2 is 1", 13);
        form("price when 1==2 is 1", 13);
        form("price when 1<>2 is 1", 13);
        form("price is 1**2", 11);
        form("price is 1//2", 11);
        form("price is 1++2", 11);
        form("price is 1--2", 11);
        form("price is 1;;price is 2", 11);
        sound("price is((1))");
        sound("price is 1+(2)-(3)*(4)/(5);duty when(1)<(2)and(2)>(1)and(1)=(1)is(1)");
    }

    private static boolean isLetter(int sign) {
        return sign >= 'a' && sign <= 'z';
    }

    private static boolean isDigit(int sign) {
        return sign >= '0' && sign <= '9';
    }

    private static void everyByteFirst() {
        CHECK.sentence("1 FORM: the first byte that begins no TOKEN");
        for (int sign = 0; sign < 256; sign++) {
            if (sign == ' ') {
                sound((char) sign + "price is 1");
            } else {
                form((char) sign + "price is 1", 0);
            }
        }
    }

    private static void everyByteAsOne() {
        CHECK.sentence("ONE: NUMBER, NAME, ( SUM )");
        for (int sign = 0; sign < 256; sign++) {
            String text = "price is " + (char) sign;
            if (isLetter(sign)) {
                noName(text, 9);
            } else if (isDigit(sign)) {
                sound(text);
            } else {
                form(text, sign == ' ' || sign == '(' ? 10 : 9);
            }
        }
    }

    private static void everyByteBehind() {
        CHECK.sentence("1 FORM: the first byte that begins no TOKEN");
        for (int sign = 0; sign < 256; sign++) {
            String text = "price is 1" + (char) sign;
            if (isDigit(sign) || sign == ' ') {
                sound(text);
            } else {
                boolean goesOn = sign == '+' || sign == '-' || sign == '*' || sign == '/' || sign == ';';
                form(text, goesOn ? 11 : 10);
            }
        }
    }

    private static void lines() {
        CHECK.sentence("TEXT: LINE {; LINE}.");
        form("", 0);
        form(" ", 1);
        form(";", 0);
        sound("price is 1");
        form("price is 1;", 11);
        sound("price is 1;price is 1");
        form("price is 1;price is 1;", 22);
        form(";price is 1", 0);
        form("price is 1 price is 1", 11);
        form("price is 1;1", 11);
        form("price is 1;when 1<2 is 1", 11);
    }

    private static void kinds() {
        CHECK.sentence("LINE: price WHEN is SUM, duty WHEN is SUM.");
        sound("price is 1");
        sound("duty is 1");
        form("is 1", 0);
        form("when 1<2 is 1", 0);
        form("old is 1", 0);
        form("salt is 1", 0);
        form("price duty is 1", 6);
        form("price", 5);
        form("price 1", 6);
        form("price is", 8);
        form("price is is 1", 9);
        form("price and 1<2 is 1", 6);
        form("duty", 4);
        form("duty is", 7);
        form("duty =1", 5);
    }

    private static void when() {
        CHECK.sentence("WHEN: nothing, or when TEST {and TEST}.");
        sound("price when 1<2 is 1");
        sound("price when 1<2 and 1<2 is 1");
        form("price when is 1", 11);
        form("price when", 10);
        form("price when and 1<2 is 1", 11);
        form("price when 1<2 and is 1", 19);
        form("price when 1<2 and and 1<2 is 1", 19);
        form("price when 1<2 1<2 is 1", 15);
        form("price when 1<2", 14);
        form("price when 1<2 and", 18);
        form("price when 1<2;price is 1", 14);
        form("price when 1<2 when 1<2 is 1", 15);
        form("price is 1 when 1<2", 11);
        form("price is 1 and 1<2", 11);
    }

    private static void tests() {
        CHECK.sentence("TEST: SUM < SUM, SUM > SUM, SUM = SUM.");
        sound("price when 1+1<2*2 is 1");
        sound("price when 1+1>2*2 is 1");
        sound("price when 1+1=2*2 is 1");
        form("price when 1 is 1", 13);
        form("price when 1 and 1<2 is 1", 13);
        form("price when <2 is 1", 11);
        form("price when 1< is 1", 14);
        form("price when 1<2<3 is 1", 14);
        form("price when 1<2=3 is 1", 14);
        form("price when (1<2) is 1", 13);
        form("price when 1;", 12);
        form("price is 1<2", 10);
        form("price is 1=1", 10);
        form("price is (1>0)", 11);
    }

    private static void sums() {
        CHECK.sentence("SUM: TERM {+ TERM or - TERM}, from the left. TERM: ONE {* ONE or / ONE}, from the left");
        sound("price is 1+2-3*4/5");
        form("price is -1", 9);
        form("price is +1", 9);
        form("price is *1", 9);
        form("price is /1", 9);
        form("price is 1+", 11);
        form("price is 1-;", 11);
        form("price is 1*)", 11);
        form("price is 1/<", 11);
        form("price is 1+-1", 11);
        form("price is 1*-1", 11);
        form("price is 1(2)", 10);
        form("price is (1)(2)", 12);
        form("price is 2year", 10);
    }

    private static void ones() {
        CHECK.sentence("ONE: NUMBER, NAME, ( SUM ).");
        sound("price is (year)");
        form("price is ()", 10);
        form("price is (", 10);
        form("price is )", 9);
        form("price is (1", 11);
        form("price is (1;duty is 1", 11);
        form("price is (1 is 1", 12);
        form("price is (1))", 12);
        form("price is 1)", 10);
        form("price is ((1)", 13);
        form("price is (1+)", 12);
        form("price is (1 2)", 12);
        form("price when (1<2 is 1", 13);
        form("price when (1)) < 2 is 1", 14);
    }

    private static void names() {
        CHECK.sentence("NAME: year, mouths, need, old");
        String[] names = {"year", "mouths", "need", "old"};
        for (String name : names) {
            sound("price is " + name);
            sound("duty when " + name + "<" + name + " is " + name);
            noName("price is " + name + "s", 9);
            noName("price is x" + name, 9);
            noName("price is " + name.substring(0, name.length() - 1), 9);
            noName("price is " + name.substring(1), 9);
            noName("price is " + name.substring(0, name.length() - 1) + "z", 9);
            form("price is 1 " + name, 11);
            form(name + " is 1", 0);
            form("price " + name + " 1", 6);
        }
    }

    private static void firstFromTheLeft() {
        CHECK.sentence("FAULTS, the first that is met from the left");
        noName("price is salt !", 9);
        form("price ! is salt", 6);
        noName("price is salt+12345", 9);
        form("price is 12345+salt", 9);
        form("price is 1 1 salt", 11);
        noName("price is salt;" + Check.times(LINE, 13), 9);
        many(Check.times(LINE, 12) + "duty is salt", 120);
        form("is" + Check.times("(", 9), 0);
        many("price is " + Check.times("(", 9) + "salt", 17);
        noName("price is " + Check.times("(", 8) + "salt" + Check.times("(", 9), 17);
        form("price is (((((((( !", 18);
    }

    private static void tokenThatGoesOn() {
        CHECK.sentence("or TOKEN with which no TEXT goes on (the end: its place)");
        form("price is year old", 14);
        form("price is 1 is 2", 11);
        form("price is 1 price", 11);
        form("price is (1;2)", 11);
        form("price when 1<2)is 1", 14);
        form("price when 1<2 or 1<2 is 1", 15);
        form("price is 1 salt", 11);
        form("price salt is 1", 6);
        form("price when 1 salt 2 is 1", 13);
        form("price is (1 salt)", 12);
    }

    private static void end() {
        CHECK.sentence("(the end: its place)");
        String whole = "price when year<1 is (1)+2";
        for (int n = 0; n <= whole.length(); n++) {
            String text = whole.substring(0, n);
            if (n == 24 || n == 26) {
                sound(text);
            } else if (n > 0 && n < 5) {
                form(text, 0);
            } else if (n > 6 && n < 10) {
                form(text, 6);
            } else if (n > 11 && n < 15) {
                noName(text, 11);
            } else if (n == 19) {
                form(text, 18);
            } else {
                form(text, n);
            }
        }
        form("price   ", 8);
        form("price is   ", 11);
        form("price is 1;   ", 14);
        form("   ", 3);
    }

    private static void noName() {
        CHECK.sentence("2 a WORD that is no NAME where one can be");
        noName("price is salt", 9);
        noName("price is 1+salt", 11);
        noName("price is 1-salt", 11);
        noName("price is 1*salt", 11);
        noName("price is 1/salt", 11);
        noName("price is (salt)", 10);
        noName("price when salt<1 is 1", 11);
        noName("price when 1<salt is 1", 13);
        noName("price when 1>salt is 1", 13);
        noName("price when 1=salt is 1", 13);
        noName("price when 1<2 and salt<1 is 1", 19);
        noName("duty is 1;price is salt", 19);
    }

    private static void wordsOfTheLanguage() {
        CHECK.sentence("(price, duty, when, and, is: there they are 1); at it.");
        String[] words = {"price", "duty", "when", "and", "is"};
        for (String word : words) {
            form("price is " + word, 9);
            form("price is 1+" + word, 11);
            form("price is 1*" + word, 11);
            form("price is (" + word, 10);
            form("price when 1<" + word, 13);
            form("price when " + word, 11);
            form("price when 1<2 and " + word, 19);
            noName("price is " + word + "s", 9);
            noName("price is x" + word, 9);
            noName("price is " + word.substring(1), 9);
        }
    }

    private static void thirteenthLine() {
        CHECK.sentence("3 MANY: a 13th LINE");
        String twelve = Check.times(LINE, 12);
        sound(Check.times(LINE, 10) + "duty is 1");
        sound(Check.times(LINE, 11) + "duty is 1");
        sound(Check.times(LINE, 11) + "price is 1");
        many(twelve + "duty is 1", 120);
        many(twelve + "price is 1", 120);
        many(twelve + "price", 120);
        many(twelve + "   duty", 123);
        many(twelve + "duty duty", 120);
        many(twelve + "duty is 1;" + LINE, 120);
        form(twelve, 120);
        form(twelve + "  ", 122);
        form(twelve + ";", 120);
        form(twelve + "salt is 1", 120);
        form(twelve + "when", 120);
        form(twelve + "year", 120);
        form(twelve + "7", 120);
        form(twelve + "!", 120);
        form(twelve + "dutydutyduty", 120);
    }

    private static void fifthTest() {
        CHECK.sentence("a fifth TEST of one: at its first TOKEN, if it may stand there (else 1, 2)");
        String three = "price when " + Check.times(TEST, 3);
        String four = three + TEST;
        sound(three + "1<2 is 5");
        sound(three + "1<2 is 5;" + three + "1<2 is 5;" + three + "1<2 is 5");
        many(four + "1<2 is 5", 43);
        many(four + "year<2 is 5", 43);
        many(four + "(1)<2 is 5", 43);
        many(four + "1", 43);
        many(four + "  1 !", 45);
        many(four + "( salt", 43);
        many("duty is 1;" + four + "1<2 is 5", 53);
        many(three + "1<2 is 5;" + four + "1<2 is 5", 44 + 43);
        noName(four + "salt<2 is 5", 43);
        form(four + "is 5", 43);
        form(four + "and 1<2", 43);
        form(four + "price", 43);
        form(four + "<2 is 5", 43);
        form(four + ")", 43);
        form(four + "12345<2 is 5", 43);
        form(four + "abcdefghi<2 is 5", 43);
        form(four + "!", 43);
        form(four, 43);
        form(three + "1<2 1<2 is 5", 39);
    }

    private static void ninthOpen() {
        CHECK.sentence("a ninth ( open");
        sound("price is " + Check.times("(", 8) + "1" + Check.times(")", 8));
        many("price is " + Check.times("(", 9) + "1" + Check.times(")", 9), 17);
        many("price is " + Check.times("(", 9), 17);
        many("price is " + Check.times("( ", 9), 25);
        sound("price is (1)" + Check.times("+(1)", 40));
        sound("price is " + Check.times("(", 7) + "(1)+(1)" + Check.times(")", 7));
        many("price is " + Check.times("(", 7) + "(1)+((1", 21);
        sound("price when ((((((((1))))))))<((((((((2))))))))and((((((((1))))))))=1 is ((((((((1))))))))");
        many("price when (((((((((1", 19);
        many("price when 1<(((((((((1", 21);
        many("price when 1<2 and (((((((((1", 27);
        many("duty is 1;duty is (((((((((1", 26);
        many("price is 1*(1-(1/(1+(1*(1-(1/(1+(1*(1", 9 + 26);
        form("price is " + Check.times("(", 8) + "1" + Check.times(")", 7), 25);
        form("price is " + Check.times("(", 8) + "1" + Check.times(")", 9), 26);
        form("price is " + Check.times("(", 8) + "1(", 18);
    }

    private static void manySigns() {
        CHECK.sentence("a 61st of + - * / : at it.");
        String[] signs = {"+", "-", "*", "/"};
        for (String sign : signs) {
            String fiftyNine = "price is 1" + Check.times(sign + "1", 59);
            sound(fiftyNine);
            sound(fiftyNine + "+1");
            sound(fiftyNine + sign + "1");
            many(fiftyNine + sign + "1" + sign + "1", 130);
            many(fiftyNine + "+1" + sign + "1", 130);
            many(fiftyNine + "+1" + sign, 130);
            many(fiftyNine + "+1" + sign + "!", 130);
            many(fiftyNine + "+1  " + sign + "salt", 132);
            form(fiftyNine + "+1!", 130);
            form(fiftyNine + "+" + sign, 129);
            form(fiftyNine + "+", 129);
            noName(fiftyNine + "+salt", 129);
        }
        many("price is 1" + Check.times("+1-1*1/1", 15) + "*1", 130);
        sound("price is (1" + Check.times("+1-1*1/1", 15) + ")");
        many("price is (1" + Check.times("+1-1*1/1", 15) + ")/1", 132);
        many("price is 1" + Check.times("+1*1", 30) + "*(1", 130);
    }

    private static void manySignsOverTheText() {
        CHECK.sentence("a 61st of + - * / : at it.");
        String thirty = "price is 1" + Check.times("+1", 30);
        sound(thirty + ";duty is 1" + Check.times("*1", 30));
        many(thirty + ";duty is 1" + Check.times("*1", 31), 140);
        String twenty = Check.times("-1", 20);
        sound("price when 1" + twenty + "<1" + twenty + "is 1" + twenty);
        many("price when 1" + twenty + "<1" + twenty + "is 1" + twenty + "+1", 138);
        many("price when 1" + twenty + "<1" + twenty + "and 1" + twenty + "/1", 139);
        many("price when 1" + twenty + "<1" + twenty + Check.times("*1", 21), 134);
    }

    private static void leastNumberOfOnePlace() {
        CHECK.sentence("of one place the least number");
        String four = "price when " + Check.times(TEST, 4);
        noName(four + "salt", 43);
        form(four + "duty", 43);
        form(Check.times(LINE, 12) + "salt", 120);
        form("price is " + Check.times("(", 8) + "1 (", 19);
        form("price is 1" + Check.times("+1", 59) + "++", 129);
        form("price is abcdefghi", 9);
        many("price when 1" + Check.times("+1", 59) + "<1 and 1<2 and 1<2 and 1<2 and (((((((((1", 130 + 31);
    }
}
