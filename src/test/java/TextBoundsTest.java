/** The bounds of THE TAPE, of TOKENS, of what may be open, of an E's int and of TEXTS: "Terms", ==== 1, and promises 6 to 8. */
public final class TextBoundsTest {
    private static final Due due = new Due("TextBoundsTest");
    private static final String[] KEYS = {"takes", "worth", "times", "or", "and", "not"};
    private static final String[] NAMES = {"place", "number", "known", "far", "here", "round"};
    private static final String LEAST = "takes 1;worth 1;times 1";

    public static void main(String[] args) {
        everyByteIsFed();
        fullTape();
        fullTapeEndsInAToken();
        whatStoodBehindIsGone();
        emptyThen();
        tooEarly();
        everyByteBehindAToken();
        everyByteAheadOfAToken();
        wordsAsLongAsCanBe();
        fourDigits();
        keysInTheirPlace();
        fiveOpen();
        openTillItsEnd();
        eachEBeginsAnew();
        anInt();
        trueIs1();
        sixTexts();
        forcedTexts();
        due.end();
    }

    private static int valueOf(String e) {
        PaidInKind x = new PaidInKind();
        x.person(0, 0, 0);
        due.is("'" + e + "' is a TEXT", Due.text(x, "takes 0;worth " + e + ";times 0;"), 1);
        x.force(1);
        return x.told(0, 10);
    }

    private static void isTrue(String e) {
        due.is("'" + e + "'", valueOf("7*(" + e + ")"), 7);
    }

    /** What text() answers to a new object's TAPE; below 0 at a FAULT: its place is asked for. */
    private static void fault(String text, int place) {
        PaidInKind x = new PaidInKind();
        due.is("FAULT of '" + text + "'", Due.text(x, text), place < 0 ? 1 : -100 - place);
        due.is("'" + text + "': THE TAPE is empty then", x.count(4), 0);
        due.is("'" + text + "': TEXTS", x.count(3), place < 0 ? 2 : 1);
    }

    /** "A byte (0 .. 255) comes behind THE TAPE: how many it has." */
    private static void everyByteIsFed() {
        for (int first = 0; first < 256; first += 128) {
            PaidInKind x = new PaidInKind();
            for (int i = 0; i < 128; i++) {
                due.is("feed(" + (first + i) + ")", x.feed(first + i), i + 1);
                due.is("bytes", x.count(4), i + 1);
            }
            due.is("256", x.feed(256), -2);
            due.is("-1", x.feed(-1), -2);
            due.is("bytes still", x.count(4), 128);
        }
    }

    /** "THE TAPE (160 bytes at most)": a TEXT of just so many is read, and nothing comes behind it. */
    private static void fullTape() {
        String text = LEAST + "+1".repeat(68) + ";";
        due.is("160 bytes", text.length(), 160);
        PaidInKind x = new PaidInKind();
        for (int i = 0; i < 159; i++) x.feed(text.charAt(i));
        due.is("the 160th", x.feed(text.charAt(159)), 160);
        due.is("the 161st", x.feed('%'), -4);
        due.is("again", x.feed(';'), -4);
        due.is("160", x.count(4), 160);
        due.is("a TEXT", x.text(), 1);
        due.is("the first byte of the next", x.feed('%'), 1);
        x.person(0, 0, 0);
        x.force(1);
        due.is("all of it was read", x.told(0, 23), 69);
        x = new PaidInKind();
        Due.feed(x, text.substring(0, 159));
        due.is("159: it ends too early", x.text(), -259);
    }

    /** At 160 bytes, "each as long as can be" ends with THE TAPE: a WORD, a NUMBER, a sign, a blank, a byte that begins none. */
    private static void fullTapeEndsInAToken() {
        String[] ends = {"+here", "+her", "+far", "+1234", "+12345", "+1", "+", "(", " ", "\n", "%", ";takes", ";", "+numbe", " time", " times", "+z", "+or"};
        int[] fault = {160, 157, 160, 160, 155, 160, 160, 159, 160, 160, 159, 155, -1, 155, 156, 155, 159, 158};
        for (int i = 0; i < ends.length; i++) {
            StringBuilder text = new StringBuilder(LEAST);
            while (text.length() + ends[i].length() < 160) text.append(' ');
            fault(text + ends[i], fault[i]);
        }
    }

    /** "THE TAPE, which is empty then": bytes that stood there once are none of a shorter one's. */
    private static void whatStoodBehindIsGone() {
        String[][] tapes = {{LEAST + ";", LEAST}, {"takes 1;worth 1;times here;", "takes 1;worth 1;times he"}, {LEAST + "2345;", LEAST + "234"},
            {"takes 1;worth 1;times 12345;", "takes 1;worth 1;times 1234;"}, {"takes 1;worth 1;times here;", "takes 1;worth 1;tim"},
            {LEAST + ";%", LEAST + ";"}, {LEAST + " %%%", LEAST + "    ;"}};
        int[] texts = {2, 2, 1, 1, 2, 1, 1};
        int[] want = {-123, -122, -126, 1, -116, 1, 1};
        for (int i = 0; i < tapes.length; i++) {
            PaidInKind x = new PaidInKind();
            Due.text(x, tapes[i][0]);
            due.is("TEXTS behind '" + tapes[i][0] + "'", x.count(3), texts[i]);
            due.is("'" + tapes[i][1] + "' behind '" + tapes[i][0] + "'", Due.text(x, tapes[i][1]), want[i]);
        }
    }

    /** "empty then (by a FAULT, too)" */
    private static void emptyThen() {
        PaidInKind x = new PaidInKind();
        due.is("a FAULT", Due.text(x, "takes 1;worth %"), -114);
        due.is("empty", x.count(4), 0);
        due.is("nothing is left of it", x.text(), -100);
        due.is("a TEXT", Due.text(x, LEAST + ";"), 1);
        due.is("empty by a TEXT", x.count(4), 0);
        due.is("nothing is left of that", x.text(), -100);
        due.is("THE RULE stays", x.count(5), 0);
    }

    /** "(the text's size, if it ends too early)": cut anywhere behind a TOKEN, with blanks or none. */
    private static void tooEarly() {
        String[] tokens = {"takes", "not", "1", "<", "2", "and", "(", "far", "-", "3", ")", ";", "worth", "-", "far", "*", "2", ";", "times", "1", "or", "0", ";"};
        StringBuilder text = new StringBuilder();
        for (int i = 0; i < tokens.length; i++) {
            fault(text.toString(), text.length());
            fault(text + " \n", text.length() + 2);
            text.append(tokens[i]).append(' ');
        }
        fault(text.toString(), -1);
        fault(text.toString().trim(), -1);
    }

    private static boolean isBlank(int letter) {
        return letter == 32 || letter == 10;
    }

    /** "blanks (32, 10) may stand between", "a byte that begins none": each byte behind a NUMBER. */
    private static void everyByteBehindAToken() {
        for (int letter = 0; letter < 256; letter++) {
            char c = (char) letter;
            int want = isBlank(letter) ? -1 : "+-*<=;".indexOf(c) >= 0 ? 9 : 8;
            fault("takes 1 " + c + ";worth 1;times 1;", want);
        }
    }

    /** The same ahead of a NUMBER: a digit belongs to it, and - may stand there; ( lacks its ) then. */
    private static void everyByteAheadOfAToken() {
        for (int letter = 0; letter < 256; letter++) {
            char c = (char) letter;
            boolean can = isBlank(letter) || c == '-' || c >= '0' && c <= '9';
            fault("takes " + c + "1;worth 1;times 1;", can ? -1 : c == '(' ? 8 : 6);
        }
    }

    /** "TOKENS, each as long as can be: WORDS (a .. z)", "a WORD that is neither KEY nor NAME" */
    private static void wordsAsLongAsCanBe() {
        for (String name : NAMES) {
            fault("takes " + name + ";worth 1;times 1;", -1);
            fault("takes(" + name + ")and " + name + "=0-" + name + "\n;worth 1;times 1;", -1);
            fault("takes " + name.substring(0, name.length() - 1) + ";worth 1;times 1;", 6);
            fault("takes " + name.substring(1) + ";worth 1;times 1;", 6);
            fault("takes " + name + "a;worth 1;times 1;", 6);
            fault("takes " + name + "z;worth 1;times 1;", 6);
            fault("takes z" + name + ";worth 1;times 1;", 6);
            fault("takes " + name + name + ";worth 1;times 1;", 6);
            fault("takes " + name.toUpperCase() + ";worth 1;times 1;", 6);
            fault("takes " + name + "1;worth 1;times 1;", 6 + name.length());
            fault("takes 1" + name + ";worth 1;times 1;", 7);
            fault("takes" + name + ";worth 1;times 1;", 0);
        }
        for (int i = 0; i < 3; i++) {
            String text = "takes 1;worth 1;times 1;";
            fault(text.replace(KEYS[i], KEYS[i].substring(0, 4)), 8 * i);
            fault(text.replace(KEYS[i], KEYS[i] + "s"), 8 * i);
            fault(text.replace(KEYS[i] + " ", KEYS[i]), -1);
            fault(text.replace(KEYS[i], KEYS[i] + " " + KEYS[i]), 8 * i + 6);
        }
        fault("takes 1or 2;worth 1;times 1;", -1);
        fault("takes 1or2;worth 1;times 1;", -1);
        fault("takes 1 orfar;worth 1;times 1;", 8);
        fault("takes notfar;worth 1;times 1;", 6);
        fault("takes not1;worth 1;times 1;", -1);
        fault("takes 1 o r 2;worth 1;times 1;", 8);
    }

    /** "NUMBERS (as many digits as stand there, 4 at most)", "a NUMBER that is too long" */
    private static void fourDigits() {
        String[] fit = {"0", "9", "00", "10", "000", "999", "0000", "0001", "1000", "9999"};
        String[] tooLong = {"00000", "00001", "10000", "99999", "123456", "4294967297"};
        for (String e : fit) {
            fault("takes " + e + ";worth 1;times 1;", -1);
            fault("takes 1+" + e + "*2;worth 1;times 1;", -1);
            isTrue(e + "=" + Integer.parseInt(e));
        }
        for (String e : tooLong) {
            fault("takes " + e + ";worth 1;times 1;", 6);
            fault("takes 1+" + e + "*2;worth 1;times 1;", 8);
            fault("takes 1;worth 1;times " + e, 22);
        }
        fault("takes 1234 5;worth 1;times 1;", 11);
        isTrue("9999+1=1000*10");
    }

    /** "takes, worth, times, or, and, not are KEYS": none is a NAME; where one can't stand, there is the FAULT. */
    private static void keysInTheirPlace() {
        for (String key : KEYS) {
            boolean not = key.equals("not");
            fault("takes " + key + ";worth 1;times 1;", not ? 9 : 6);
            fault("takes 1+" + key + " 1;worth 1;times 1;", 8);
            fault("takes 1<" + key + " 1;worth 1;times 1;", 8);
            fault("takes -" + key + " 1;worth 1;times 1;", 7);
            fault("takes (" + key + " 1);worth 1;times 1;", not ? -1 : 7);
            fault("takes 1 or " + key + " 1;worth 1;times 1;", not ? -1 : 11);
            fault("takes 1 " + key + " 1;worth 1;times 1;", key.equals("or") || key.equals("and") ? -1 : 8);
            fault("takes 1;worth 1;times 1;" + key, 24);
            fault(key + " 1;worth 1;times 1;", key.equals("takes") ? -1 : 0);
        }
        fault("takes not 1 not 1;worth 1;times 1;", 12);
        fault("takes 1<2<3;worth 1;times 1;", 9);
        fault("takes 1=2=3;worth 1;times 1;", 9);
        fault("takes not 1<2=3;worth 1;times 1;", 13);
        fault("takes 1<2 and 3=4 or 5<6;worth 1;times 1;", -1);
    }

    /** "a ( , a not, a - ahead of a ONE while 5 of these are open": each mixture of five stands, a sixth of any is the FAULT. */
    private static void fiveOpen() {
        for (int mix = 0; mix < 243; mix++) {
            StringBuilder five = new StringBuilder();
            StringBuilder close = new StringBuilder();
            boolean can = true;
            boolean minus = false;
            for (int i = 0, m = mix; i < 5; i++, m /= 3) {
                if (m % 3 == 0) close.append(')');
                can = can && !(m % 3 == 1 && minus);
                minus = m % 3 == 2;
                five.append(m % 3 == 0 ? "(" : m % 3 == 1 ? "not " : "-");
            }
            // behind a - only a ONE can stand, so that not is a FAULT of its own there
            if (!can) continue;
            int sixth = 6 + five.length();
            fault("takes " + five + "1" + close + ";worth 1;times 1;", -1);
            fault("takes " + five + "(1)" + close + ";worth 1;times 1;", sixth);
            fault("takes " + five + "-1" + close + ";worth 1;times 1;", sixth);
            fault("takes " + five + "not 1" + close + ";worth 1;times 1;", sixth);
            fault("takes " + five + "1" + close + "-1" + ";worth 1;times 1;", -1);
        }
    }

    /** "(a ( till its ) , not and - till what they belong to ends)" */
    private static void openTillItsEnd() {
        String end = ";worth 1;times 1;";
        fault("takes ((((((1" + end, 11);
        fault("takes (((((1)+(1))))" + ")" + end, -1);
        fault("takes (((((1)+((1))))))" + end, 15);
        fault("takes (((((1))))) or (((((1)))))" + end, -1);
        fault("takes ----(1)*-----1--(---1)" + end, -1);
        fault("takes ----(1)*-----1--(----1)" + end, 26);
        fault("takes ----(-1)" + end, 11);
        fault("takes ----(1--1)" + end, 13);
        fault("takes ---(--1)" + end, 11);
        fault("takes ---(-1--1)" + end, -1);
        fault("takes not not not not (1)<(1)" + end, -1);
        fault("takes not not not not (1)<-1" + end, -1);
        fault("takes not not not not (1)<--1" + end, 27);
        fault("takes not not not not (1)<(-1)" + end, 27);
        fault("takes not not not not (1) and -----1" + end, -1);
        fault("takes not not not not 1*-1+(1)" + end, -1);
        fault("takes not not not not not 1*1+1<1 or not 1" + end, -1);
        fault("takes not not not not not 1*(1)" + end, 28);
        // a - between two TERMS opens nothing
        fault("takes (((((1-1-1-1-1-1-1)))))" + end, -1);
        fault("takes (((((1--1)))))" + end, 13);
    }

    /** What is open is so in its own E alone, and in its own TEXT. */
    private static void eachEBeginsAnew() {
        String[] five = {"(((((1)))))", "-----1", "not not not not not 1"};
        for (String e : five) {
            fault("takes " + e + ";worth " + e + ";times " + e + ";", -1);
            String six = e.startsWith("(") ? "(" + e + ")" : e.startsWith("-") ? "-" + e : "not " + e;
            int last = six.startsWith("n") ? 20 : 5;
            fault("takes " + e + ";worth " + six + ";times " + e + ";", 6 + e.length() + 7 + last);
            fault("takes " + e + ";worth " + e + ";times " + six + ";", 6 + 2 * e.length() + 14 + last);
        }
        PaidInKind x = new PaidInKind();
        for (int i = 0; i < 4; i++) due.is("left open", Due.text(x, "takes (-(-("), -111);
        due.is("not now", Due.text(x, "takes (((((1)))));worth 1;times 1;"), 1);
    }

    /** "An E is an int (32 bits, wrapping)" */
    private static void anInt() {
        String two31 = "1024*1024*2048";
        isTrue(two31 + "<0");
        isTrue(two31 + "=-(" + two31 + ")");
        isTrue(two31 + "-1=1024*1024*2047+1024*1023+1023");
        isTrue("0<" + two31 + "-1");
        isTrue(two31 + "-1+1=" + two31);
        isTrue("-" + two31 + "=" + two31);
        isTrue("1024*1024*4096=0");
        isTrue("(" + two31 + "-1)*2=-2");
        isTrue("(" + two31 + ")*(" + two31 + ")=0");
        isTrue("9999*9999*9999=-1027*1000*1000-3499*100-69");
        isTrue(two31 + "<" + two31 + "-1");
        isTrue("not (" + two31 + "-1<" + two31 + ")");
        due.is("MAX is 99 at most", valueOf(two31 + "-1"), 99);
        due.is("MIN is 0 at least", valueOf(two31), 0);
    }

    /** "of or, and, not, <, = 1 or 0 (what is not 0 is true)" */
    private static void trueIs1() {
        String[] are1 = {"5 or 0", "0 or 5", "-1 or -1", "5 and 7", "-1 and 2", "not 0", "0<1", "-1<0", "5=5", "0=0", "not not 5", "1024*1024*2048 or 0"};
        String[] are0 = {"0 or 0", "5 and 0", "0 and 5", "not 5", "not -1", "not 1", "1<1", "1<0", "5=4", "not not 0", "1024*1024*4096 or 0"};
        for (String e : are1) due.is("'" + e + "'", valueOf("50+(" + e + ")"), 51);
        for (String e : are0) due.is("'" + e + "'", valueOf("50+(" + e + ")"), 50);
    }

    /** "There are 6 TEXTS at most, TEXT 0 with them", "FULL (ahead of all): no TEXT more has room (THE TAPE stays)" */
    private static void sixTexts() {
        PaidInKind x = new PaidInKind();
        x.person(0, 0, 0);
        due.is("one at first", x.count(3), 1);
        for (int i = 1; i <= 5; i++) {
            due.is("a FAULT has no number", Due.text(x, "%"), -100);
            due.is("its number", Due.text(x, "takes 1;worth " + (10 + i) + ";times 1;"), i);
            due.is("TEXTS", x.count(3), i + 1);
        }
        due.is("FULL of an empty TAPE", x.text(), -4);
        Due.feed(x, LEAST);
        due.is("FULL of a FAULT", x.text(), -4);
        due.is("THE TAPE stays", x.count(4), 23);
        due.is("a byte more", x.feed(';'), 24);
        due.is("FULL of a TEXT", x.text(), -4);
        due.is("THE TAPE stays again", x.count(4), 24);
        due.is("six", x.count(3), 6);
        for (int i = 1; i <= 5; i++) {
            x.force(i);
            due.is("each as it was read", x.told(0, 10), 10 + i);
        }
    }

    /** "A TEXT is THE RULE: which was. BAD." */
    private static void forcedTexts() {
        PaidInKind x = new PaidInKind();
        x.person(0, 0, 0);
        due.is("0 was", x.force(0), 0);
        for (int i = 1; i <= 5; i++) {
            due.is("not there yet", x.force(i), -2);
            Due.text(x, "takes 1;worth " + (10 + i) + ";times 1;");
            due.is("which was", x.force(i), i - 1);
            due.is("THE RULE", x.count(5), i);
            due.is("one beyond", x.force(i + 1), -2);
            due.is("-1", x.force(-1), -2);
            due.is("THE RULE still", x.count(5), i);
            due.is("by it", x.told(0, 10), 10 + i);
        }
        due.is("the same again", x.force(5), 5);
        due.is("back to 0", x.force(0), 5);
        due.is("by TEXT 0", x.told(0, 11), 99);
        due.is("here", x.told(0, 30), 0);
    }
}
