/** Texts: a test of its own for each sentence that names an edge (promise 6, and the texts of 8). */
public final class EdgesTextTest extends Check {
    public static void main(String[] args) {
        promise = 6;
        firstText();
        textsFromOneToFive();
        tapeIsEmptyThen();
        tapeIsEmptyByFaults();
        fullAheadOfFaults();
        emptyTape();
        longestTape();
        eachByteAheadOfOne();
        eachByteBehindOne();
        blanksBetween();
        noBlanksNeeded();
        wordsAsLongAsCanBe();
        wordsThatAreNone();
        keysAndNamesInTheirPlaces();
        numbersOfFourDigits();
        numbersThatAreTooLong();
        partsInTheirOrder();
        textsThatEndTooEarly();
        textsThatGoOn();
        tokensThatCannotStand();
        firstOfSeveralFaults();
        fiveOpen();
        sixOpen();
        openTillItsBracket();
        openTillWhatTheyBelongTo();
        minusBetweenIsNotOpen();
        promise = 8;
        wrapping();
        oneOrZero();
        whatIsNotZeroIsTrue();
        whatBindsFirst();
        fromTheLeft();
        longestFormulas();
        manyLongTexts();
        end();
    }

    private static void fault(String text, int place) {
        WhoeverKnowsSings x = new WhoeverKnowsSings();
        due("text " + text, text(x, text), -100 - place);
        due("texts behind " + text, x.count(3), 1);
        due("the tape behind " + text, x.count(5), 0);
    }

    private static void fine(String text) {
        WhoeverKnowsSings x = new WhoeverKnowsSings();
        due("text " + text, text(x, text), 1);
        due("texts behind " + text, x.count(3), 2);
        due("the tape behind " + text, x.count(5), 0);
    }

    /** A formula that is read without a fault. */
    private static void reads(String formula) {
        fine("may " + formula + ";learn 1;wall 1;");
        fine("may 1;learn 1;wall " + formula + ";");
    }

    /** A formula with its fault at a place of its own, in the first part and in the last. */
    private static void cannot(String formula, int place) {
        fault("may " + formula + ";learn 1;wall 1;", 4 + place);
        fault("may 1;learn 1;wall " + formula + ";", 19 + place);
    }

    /** A formula's value (not 0 or 0) with know 1, will 2, by 3, song 4, room 2, evening 7. */
    private static void value(String formula, int want) {
        for (int part = 0; part < 3; part++) {
            WhoeverKnowsSings x = new WhoeverKnowsSings();
            law(x, "may " + (part == 0 ? formula : "0") + ";learn " + (part == 1 ? formula : "0")
                + ";wall " + (part == 2 ? formula : "0") + ";");
            due(formula, x.asks(part, 123, 42, 7), want);
        }
    }

    /** "TEXT 0, at first, and THE LAW: may will = know and 0 < will ; learn 1 ; wall 1 ;" */
    private static void firstText() {
        for (int from = 0; from < 1000; from += 125) {
            WhoeverKnowsSings x = new WhoeverKnowsSings();
            for (int who = from; who < from + 125; who++) {
                int know = who / 100;
                int will = who / 10 % 10;
                due("may " + who, x.asks(0, who, 53, 99), will == know && will > 0 ? 1 : 0);
                due("learn " + who, x.asks(1, who, 0, 0), 1);
                due("wall " + who, x.asks(2, who, 0, 0), 1);
            }
        }
    }

    /** "TEXTS are numbered from 0 on, 6 at most", "its number" */
    private static void textsFromOneToFive() {
        WhoeverKnowsSings x = new WhoeverKnowsSings();
        for (int t = 1; t < 6; t++) {
            due("text " + t, text(x, "may by = " + t + ";learn 1;wall 1;"), t);
            due("texts", x.count(3), t + 1);
            due("the law stays", x.count(4), 0);
        }
        for (int t = 1; t < 6; t++) {
            x.force(t);
            for (int by = 0; by < 7; by++) {
                due("text " + t + ", by " + by, x.asks(0, by, 0, 0), by == t ? 1 : 0);
            }
        }
        tape(x, YES);
        due("a seventh", x.text(), FULL);
        due("texts yet", x.count(3), 6);
    }

    /** "THE TAPE, which is empty then" */
    private static void tapeIsEmptyThen() {
        WhoeverKnowsSings x = new WhoeverKnowsSings();
        due("text 1", text(x, YES), 1);
        due("the tape", x.count(5), 0);
        due("nothing is left of it", text(x, "1;"), -100);
        due("text 2", text(x, YES), 2);
    }

    /** "(by a FAULT, too)" */
    private static void tapeIsEmptyByFaults() {
        WhoeverKnowsSings x = new WhoeverKnowsSings();
        due("a fault", text(x, "may 1;learn #"), -112);
        due("the tape", x.count(5), 0);
        due("nothing is left of it", text(x, YES), 1);
        WhoeverKnowsSings y = rich();
        due("the fault of rich()", y.text(), -105);
        due("its tape", y.count(5), 0);
        due("its texts", y.count(3), 2);
        due("its law", y.count(4), 1);
    }

    /** "FULL (ahead of the FAULT; then THE TAPE stays)" */
    private static void fullAheadOfFaults() {
        refused(Check::full, "text() of a fault, full", WhoeverKnowsSings::text, FULL);
        refused(() -> sixTexts(""), "text() of nothing, full", WhoeverKnowsSings::text, FULL);
        refused(() -> sixTexts(YES), "text() of a text, full", WhoeverKnowsSings::text, FULL);
        WhoeverKnowsSings x = sixTexts(YES);
        x.text();
        due("the tape stays", x.count(5), YES.length());
        due("and grows", x.feed(1, ' ', 0, 0, 0, 0), YES.length() + 1);
    }

    private static WhoeverKnowsSings sixTexts(String tape) {
        WhoeverKnowsSings x = new WhoeverKnowsSings();
        for (int t = 1; t < 6; t++) {
            text(x, "may know;learn 1;wall 1;");
        }
        tape(x, tape);
        return x;
    }

    /** "(the text's size, if it ends too early)": of an empty one 0. */
    private static void emptyTape() {
        WhoeverKnowsSings x = new WhoeverKnowsSings();
        due("text() of an empty tape", x.text(), -100);
        due("texts", x.count(3), 1);
        fault(" ", 1);
        fault("\n", 1);
        fault(" \n \n ", 5);
    }

    /** "THE TAPE (160 bytes at most)": all of them are read. */
    private static void longestTape() {
        StringBuilder sum = new StringBuilder("may 1");
        while (sum.length() < 160 - 17) {
            sum.append("+1");
        }
        String text = sum + " ;learn 0;wall 1;";
        due("its length", text.length(), 160);
        fine(text);
        fault(text.substring(0, 159) + "#", 159);
        fault(text.substring(0, 159) + "1", 160);
        fault(text.substring(0, 159) + " ", 160);
        StringBuilder blanks = new StringBuilder(YES);
        while (blanks.length() < 160) {
            blanks.append(' ');
        }
        fine(blanks.toString());
        fault(" ".repeat(160), 160);
        fault(" ".repeat(159) + "x", 159);
        fault(" ".repeat(157) + "may", 160);
        fine(" ".repeat(160 - YES.length()) + YES);
    }

    /** "also of a byte that begins none", each of the 256 where a ONE is due. */
    private static void eachByteAheadOfOne() {
        for (int b = 0; b < 256; b++) {
            char sign = (char) b;
            boolean isDigit = b >= '0' && b <= '9';
            boolean goesOn = b == ' ' || b == '\n' || b == '(' || b == '-';
            fault("may " + sign + ";", isDigit ? 6 : goesOn ? 5 : 4);
        }
    }

    /** .. and where a sign is due. */
    private static void eachByteBehindOne() {
        for (int b = 0; b < 256; b++) {
            char sign = (char) b;
            String text = "may 1" + sign + " learn 1;wall 1;";
            boolean isDigit = b >= '0' && b <= '9';
            boolean isBlank = b == ' ' || b == '\n';
            boolean isBetween = b == '+' || b == '-' || b == '*' || b == '<' || b == '=';
            if (b == ';') {
                fine(text);
            } else {
                fault(text, isDigit || isBlank || isBetween ? 7 : 5);
            }
        }
    }

    /** "blanks (32, 10) may stand between" */
    private static void blanksBetween() {
        fine("\n\n may \n 1 \n ; learn\n1\n; \n wall 1\n ; \n\n");
        reads(" ( \n 1 ) + \n ( 1 ) * \n - 1 < \n 2 ");
        cannot("1 2", 2);
        cannot("1\n2", 2);
        cannot("kn ow", 0);
        cannot("know will", 5);
        fault("m ay 1;", 0);
    }

    /** .. and need not. */
    private static void noBlanksNeeded() {
        fine("may1;learn1;wall1;");
        fine("may not1;learn not1;wall not1;");
        reads("not(1)or(2)and(3)");
        reads("1or 2and 3");
        reads("1or-2and-3");
        reads("(know)or(will)");
        value("1or 0", 1);
        value("5-3-2=0", 1);
        value("know+will*by=7", 1);
        value("not(0)", 1);
    }

    /** "TOKENS, each as long as can be: WORDS (as many letters a .. z as stand there)" */
    private static void wordsAsLongAsCanBe() {
        fault("maynot 1;", 0);
        fault("maymay 1;", 0);
        fault("mayknow;", 0);
        cannot("notnot 1", 0);
        cannot("knowknow", 0);
        cannot("not1 ornot 1", 5);
        cannot("1 andnot 0", 2);
        cannot("1 or or", 5);
        cannot("knowor 1", 0);
        cannot("1 orknow", 2);
        reads("know or know");
    }

    /** "of a WORD that is neither KEY nor NAME" */
    private static void wordsThatAreNone() {
        String[] words = {"know", "will", "by", "song", "room", "evening"};
        for (String name : words) {
            reads(name);
            cannot(name + "s", 0);
            cannot(name + "a", 0);
            cannot(name + "z", 0);
            cannot("a" + name, 0);
            cannot("z" + name, 0);
            cannot(name.substring(1), 0);
            cannot(name.substring(0, name.length() - 1), 0);
            cannot("1 " + name + "s", 2);
        }
        String[] keys = {"may", "learn", "wall", "or", "and", "not"};
        for (String key : keys) {
            cannot("1 " + key + "s", 2);
            cannot("1 " + key.substring(0, key.length() - 1), 2);
            cannot("1 x" + key, 2);
        }
        for (String name : words) {
            for (int i = 0; i < name.length(); i++) {
                cannot(name.substring(0, i) + "x" + name.substring(i + 1), 0);
                cannot("1 + " + name.substring(0, i) + "x" + name.substring(i + 1), 4);
            }
        }
        for (String key : keys) {
            for (int i = 0; i < key.length(); i++) {
                String other = key.substring(0, i) + "x" + key.substring(i + 1);
                cannot("1 " + other + " 1", 2);
                cannot(other + " 1", 0);
                eachPart(other);
            }
        }
        cannot("z", 0);
        cannot("a", 0);
        cannot("abcdefghijklmnopqrstuvwxyz", 0);
        cannot("1 xor 0", 2);
        cannot("1 nor 0", 2);
        cannot("Know", 0);
        cannot("knoW", 0);
        fault("May 1;", 0);
        fault("maY 1;", 0);
    }

    /** "the first TOKEN that can't stand there": a key, a name in another's place. */
    private static void keysAndNamesInTheirPlaces() {
        String[] keys = {"may", "learn", "wall", "or", "and"};
        for (String key : keys) {
            cannot(key, 0);
            cannot("1 + " + key, 4);
            cannot("(" + key + ")", 1);
            cannot("not " + key, 4);
            cannot("-" + key, 1);
        }
        String[] names = {"know", "will", "by", "song", "room", "evening"};
        for (String name : names) {
            fault(name + " 1;learn 1;wall 1;", 0);
            fault("may 1;" + name + " 1;", 6);
            cannot("1 " + name, 2);
        }
        String[] parts = {"may", "learn", "wall"};
        for (String part : parts) {
            cannot("1 " + part + " 1", 2);
            cannot("(1 " + part + " 1)", 3);
        }
        String[] words = {"may", "learn", "wall", "or", "and", "not", "know", "will", "by", "song", "room",
            "evening"};
        for (String word : words) {
            eachPart(word);
        }
    }

    /** A word in place of each part's key: only that key can stand there. */
    private static void eachPart(String word) {
        String[] ahead = {"", "may 1;", "may 1;learn 1;"};
        String[] behind = {" 1;learn 1;wall 1;", " 1;wall 1;", " 1;"};
        String[] keys = {"may", "learn", "wall"};
        for (int part = 0; part < 3; part++) {
            if (word.equals(keys[part])) {
                fine(ahead[part] + word + behind[part]);
            } else {
                fault(ahead[part] + word + behind[part], ahead[part].length());
            }
        }
    }

    /** "NUMBERS (as many digits as stand there; more than 4 are too long)": 0 .. 9999, 4 digits. */
    private static void numbersOfFourDigits() {
        value("0", 0);
        value("0000", 0);
        value("0001", 1);
        value("0009 = 9", 1);
        value("9999 = 9998 + 1", 1);
        value("9999 + 1 = 100 * 100", 1);
        value("1000 = 999 + 1", 1);
        value("12 = 1 * 10 + 2", 1);
        value("1234 = ((1 * 10 + 2) * 10 + 3) * 10 + 4", 1);
        value("9876 = ((9 * 10 + 8) * 10 + 7) * 10 + 6", 1);
        value("5 = 05", 1);
    }

    /** "a NUMBER that is too long" */
    private static void numbersThatAreTooLong() {
        cannot("10000", 0);
        cannot("00000", 0);
        cannot("00001", 0);
        cannot("99999", 0);
        cannot("1 + 12345", 4);
        cannot("4294967296", 0);
        cannot("4294967297", 0);
        cannot("(12345)", 1);
        cannot("1 12345", 2);
        cannot("-12345", 1);
        fault("may " + "1".repeat(156), 4);
        cannot("1234 5", 5);
        reads("1234-5678");
    }

    /** "TEXT: may E ; learn E ; wall E ;" */
    private static void partsInTheirOrder() {
        fine("may 1;learn 1;wall 1;");
        fault("learn 1;may 1;wall 1;", 0);
        fault("wall 1;", 0);
        fault("may 1;wall 1;learn 1;", 6);
        fault("may 1;may 1;", 6);
        fault("may 1;learn 1;learn 1;", 14);
        fault("may 1;learn 1;may 1;", 14);
        fault("1;learn 1;wall 1;", 0);
        fault(";", 0);
    }

    /** "(the text's size, if it ends too early)": wherever it does. */
    private static void textsThatEndTooEarly() {
        String text = "may (1)+-1;learn not 1<1;wall 1*1 or 1 and 1=1;";
        fine(text);
        int[] behindTokens = {3, 5, 6, 7, 8, 9, 10, 11, 16, 20, 22, 23, 24, 25, 29, 31, 32, 33, 36, 38,
            42, 44, 45, 46};
        for (int size : behindTokens) {
            fault(text.substring(0, size), size);
            fault(text.substring(0, size) + " \n", size + 2);
        }
        fault("may ", 4);
        fault("may 1;learn ", 12);
    }

    /** What stands behind the last ; can't. */
    private static void textsThatGoOn() {
        String[] more = {"may", ";", "1", "know", "(", ")", "-", "not", "x", "#", "12345", "or"};
        for (String token : more) {
            fault(YES + token, 21);
            fault(YES + " \n" + token, 23);
        }
        fine(YES + " \n ");
    }

    /** "the place of the first byte of the first TOKEN that can't stand there" */
    private static void tokensThatCannotStand() {
        cannot("", 0);
        cannot("()", 1);
        cannot(")", 0);
        cannot("1)", 1);
        cannot("(1))", 3);
        cannot("(1 2)", 3);
        cannot("(1", 2);
        cannot("1(", 1);
        cannot("know(1)", 4);
        cannot("+1", 0);
        cannot("*1", 0);
        cannot("<1", 0);
        cannot("=1", 0);
        cannot("1+", 2);
        cannot("1++1", 2);
        cannot("1+*1", 2);
        cannot("1*+1", 2);
        cannot("1**1", 2);
        cannot("1-*1", 2);
        cannot("1<", 2);
        cannot("1<<1", 2);
        cannot("1<=1", 2);
        cannot("1=<1", 2);
        cannot("1==1", 2);
        cannot("1<2<3", 3);
        cannot("1<2=3", 3);
        cannot("1=2<3", 3);
        cannot("1=2=3", 3);
        cannot("not 1<2<3", 7);
        cannot("1 and or 1", 6);
        cannot("1 or and 1", 5);
        cannot("1 not 1", 2);
        cannot("1 + not 1", 4);
        cannot("1 * not 1", 4);
        cannot("1 < not 1", 4);
        cannot("1 = not 1", 4);
        cannot("- not 1", 2);
        cannot("not", 3);
        cannot("not or", 4);
        cannot("-", 1);
        cannot("-)", 1);
        cannot("1;2", 2);
        reads("(1<2)<3");
        reads("1<2 and 1<2 or not 1=2");
        reads("(not 1)+(1 or 1)*(1 and 1)-(1<1)");
    }

    private static void firstOfSeveralFaults() {
        fault("may # 12345 x", 4);
        fault("may x # 12345", 4);
        fault("may 12345 # x", 4);
        fault("may 1 ) # x", 6);
        fault("may ((((((x", 9);
        fault("may (((((x((", 9);
        fault("# may", 0);
        fault("may 1;learn #;wall #;", 12);
    }

    /** "a ( , a not, a - ahead of a ONE while 5 of these are open": five may be. */
    private static void fiveOpen() {
        reads("(((((1)))))");
        reads("not not not not not 1");
        reads("-----1");
        reads("not(-(not 1))");
        reads("((-(-1)))");
        reads("not not not --1");
        reads("not not(not(1))");
        reads("1 + (1 + (1 + (1 + (1 + (1)))))");
        value("(((((1)))))", 1);
        value("(((((0)))))", 0);
        value("not not not not not 1", 0);
        value("not not not not not 0", 1);
        value("-----1 = 0 - 1", 1);
        value("----1 = 1", 1);
        value("not(-(not 1))", 1);
        value("not(-(not 0))", 0);
        value("1 + (1 + (1 + (1 + (1 + (1))))) = 6", 1);
    }

    /** .. the sixth is the fault, whichever of the three it is. */
    private static void sixOpen() {
        String[] opens = {"(((((", "not not not not not ", "-----", "not(-(not ", "((-(-", "not not not--",
            "not not(not(", "(not(not(", "1+(1*(1<(1 or(1 and("};
        for (String five : opens) {
            cannot(five + "(1)", five.length());
            cannot(five + "-1", five.length());
            cannot(five + "not 1", five.length());
        }
        cannot("((((((1))))))", 5);
        cannot("((((((((((1", 5);
        cannot("--------1", 5);
    }

    /** "(a ( till its ) ..": then others may be opened. */
    private static void openTillItsBracket() {
        reads("(((((1)))))+(((((1)))))");
        reads("((((1)))+(((1))))");
        reads("((((1)+(1))+((1)+(1)))+(1))");
        reads("(((((1))+((1)))))");
        cannot("(((((1)+(1)))+((((1", 17);
        cannot("(((((1)))+((((1", 13);
        reads("(((((1)))+(((1)))))");
        reads("(((((1)))) and not 1)");
        cannot("((((1)) and not not not not 1", 24);
        reads("((((1)) and not not not 1))");
    }

    /** ".. not and - till what they belong to ends)" */
    private static void openTillWhatTheyBelongTo() {
        reads("-----1--1");
        reads("-----1-----1");
        reads("-----1 - -----1");
        reads("-----1*-----1+-----1<-----1");
        reads("-----1*(((((1)))))");
        reads("not not not not not 1 and not not not not not 1");
        reads("not not not not not 1<2 or (((((1)))))");
        cannot("not not not not not 1+(1)", 22);
        cannot("not not not not not 1*-1", 22);
        cannot("not not not not not 1<-1", 22);
        cannot("not not not not not 1=(1)", 22);
        reads("not not not not not 1 and -1");
        reads("not not not not 1<-1 and (((((1)))))");
        cannot("not not not not 1<--1", 19);
        reads("----(1)*-----1");
        cannot("----(-1)", 5);
        cannot("----(1*-1)", 7);
        reads("---(1*-1)");
        reads("---(-1*-1)");
        cannot("(not not not not 1 < (1) and 1)", 21);
        reads("(not not not not 1 < 1 and not not not not 1)");
    }

    /** A - between two is none of these. */
    private static void minusBetweenIsNotOpen() {
        reads("(((((1-1)))))");
        reads("1-1-1-1-1-1-1-1-1-1");
        reads("not not not not not 1-1");
        cannot("(((((1--1", 7);
        cannot("(((((1-(1", 7);
        value("(((((1-1)))))", 0);
        value("1-1-1 = -1", 1);
    }

    // ---- what a text says

    /** "An E is an int (32 bits, wrapping)" */
    private static void wrapping() {
        String least = "8192 * 8192 * 32";
        value(least + " < 0", 1);
        value("8192 * 8192 * 64", 0);
        value("8192 * 8192 * 64 + 1 = 1", 1);
        value(least + " - 1 < 0", 0);
        value("0 < " + least + " - 1", 1);
        value("8192 * 8192 * 16 + 8192 * 8192 * 16 < 0", 1);
        value("8192 * 8192 * 16 + (8192 * 8192 * 16 - 1) < 0", 0);
        value("-(" + least + ") < 0", 1);
        value("0 - " + least + " < 0", 1);
        value("-(" + least + ") = " + least, 1);
        value(least + " < " + least + " - 1", 1);
        value(least + " - 1 < " + least, 0);
        value("-(8192 * 8192 * 16) - 8192 * 8192 * 16 - 1 < 0", 0);
        value("9999 * 9999 * 9999 = 0 - ((1027 * 1000 + 349) * 1000 + 969)", 1);
        value(least, 1);
        value("not " + least, 0);
        value(least + " * 2", 0);
        value(least + " + " + least, 0);
    }

    /** "of or, and, not, <, = 1 or 0" */
    private static void oneOrZero() {
        value("(5 or 7) = 1", 1);
        value("(5 or 0) = 1", 1);
        value("(0 or 7) = 1", 1);
        value("(0 or 0) = 0", 1);
        value("(5 and 7) = 1", 1);
        value("(4 and 2) = 1", 1);
        value("(5 and 0) = 0", 1);
        value("(0 and 7) = 0", 1);
        value("(0 and 0) = 0", 1);
        value("(not 0) = 1", 1);
        value("(not 1) = 0", 1);
        value("(not 7) = 0", 1);
        value("(not not 7) = 1", 1);
        value("(2 < 3) = 1", 1);
        value("(3 < 3) = 0", 1);
        value("(4 < 3) = 0", 1);
        value("(3 = 3) = 1", 1);
        value("(3 = 4) = 0", 1);
        value("(4 = 3) = 0", 1);
    }

    /** "(what is not 0 is true)" */
    private static void whatIsNotZeroIsTrue() {
        value("2", 1);
        value("-1", 1);
        value("-0", 0);
        value("0", 0);
        value("2 and 4", 1);
        value("-1 and -1", 1);
        value("-1 or 0", 1);
        value("0 or -1", 1);
        value("not -1", 0);
        value("not 2", 0);
        value("8192 * 8192 * 32 and 8192 * 8192 * 32", 1);
        value("8192 * 8192 * 32 or 0", 1);
    }

    /** "E: AND { or AND }. AND: NOT { and NOT }. NOT: not NOT, or SUM, perhaps < or = and a SUM. .." */
    private static void whatBindsFirst() {
        value("1 or 1 and 0", 1);
        value("(1 or 1) and 0", 0);
        value("0 and 1 or 1", 1);
        value("0 and (1 or 1)", 0);
        value("not 1 or 1", 1);
        value("not (1 or 1)", 0);
        value("not 0 and 0", 0);
        value("not (0 and 0)", 1);
        value("not 2 = 0", 1);
        value("(not 2) = 1", 0);
        value("not 0 + 1", 0);
        value("(not 0) + 1 = 2", 1);
        value("1 + 1 < 1 + 2", 1);
        value("1 + (1 < 1) + 2 = 3", 1);
        value("2 + 3 * 4 = 14", 1);
        value("2 * 3 + 4 = 10", 1);
        value("-2 + 3 = 1", 1);
        value("-(2 + 3) + 5", 0);
        value("-2 * 3 + 6", 0);
        value("2 * -3 + 6", 0);
        value("1 = 1 and 2 = 2", 1);
        value("1 = (1 and 2)", 1);
        value("3 < 2 or 2 < 3", 1);
    }

    /** "SUM: TERM { + or - TERM }. TERM: ONE { * ONE }." */
    private static void fromTheLeft() {
        value("9 - 3 - 2 = 4", 1);
        value("9 - (3 - 2) = 8", 1);
        value("9 - 3 + 2 = 8", 1);
        value("9 - (3 + 2) = 4", 1);
        value("1 - 2 - 3 - 4 + 8", 0);
        value("2 * 3 * 4 = 24", 1);
        value("1 or 0 or 0", 1);
        value("1 and 1 and 0", 0);
        value("know - will - by + 4", 0);
        value("know = 1 and will = 2 and by = 3", 1);
        value("song = 4 and room = 2 and evening = 7", 1);
    }

    /** As much open and waiting as a tape can hold: nothing is lost. */
    private static void longestFormulas() {
        value("1+1*(1+1*(1+1*(1+1*(1+1*(1+1*1)))))=7", 1);
        value("0 or 1 and 1<1+1*(0 or 1 and 1<1+1*(0 or 1 and 1<1+1*(0 or 1 and 1<1+1*(1))))", 1);
        value("0 or 1 and 1<1+1*(0 or 1 and 1<1+1*(0 or 1 and 1<1+1*(0 or 1 and 1<1+1*(0))))", 0);
        String deep = "0 or 1and 0<0+1*(".repeat(5);
        value(deep + "0 or 1and 0<0+1*1" + ")".repeat(5), 1);
        value(deep + "0 or 1and 0<0+1*0" + ")".repeat(5), 0);
        StringBuilder ones = new StringBuilder("1");
        while (ones.length() < 120) {
            ones.append("+1");
        }
        value(ones + "=61", 1);
        value(ones + "=60", 0);
        StringBuilder ors = new StringBuilder("0");
        while (ors.length() < 120) {
            ors.append("or 0");
        }
        value(ors.toString(), 0);
        value(ors + "or 1", 1);
    }

    /** Texts of 160 bytes, as many as there can be, and faults between: each says what is its own. */
    private static void manyLongTexts() {
        WhoeverKnowsSings x = new WhoeverKnowsSings();
        for (int t = 1; t < 6; t++) {
            StringBuilder text = new StringBuilder("may 0");
            while (text.length() < 128) {
                text.append("+0");
            }
            text.append("+").append(t).append("=by;learn by=").append(t).append(";wall ").append(t % 2);
            while (text.length() < 159) {
                text.append(' ');
            }
            due("a long fault", text(x, text + "#"), -259);
            due("long text " + t, text(x, text + ";"), t);
        }
        for (int t = 1; t < 6; t++) {
            x.force(t);
            for (int by = 0; by < 7; by++) {
                due("may of " + t, x.asks(0, by, 0, 0), by == t ? 1 : 0);
                due("learn of " + t, x.asks(1, by, 0, 0), by == t ? 1 : 0);
                due("wall of " + t, x.asks(2, by, 0, 0), t % 2);
            }
        }
    }
}
