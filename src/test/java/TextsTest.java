import java.util.Random;

/** Promises 6 to 8: feed, text, force. */
public final class TextsTest {
    private static final Due due = new Due("TextsTest");

    public static void main(String[] args) {
        feeds();
        faults();
        openOnes();
        values();
        names();
        everyChangeTells();
        deepest();
        roomForTexts();
        forces();
        due.end();
    }

    private static void feeds() {
        PaidInKind x = new PaidInKind();
        due.is("feed(-1)", x.feed(-1), -2);
        due.is("feed(256)", x.feed(256), -2);
        for (int i = 1; i <= 160; i++) due.is("feed " + i, x.feed(i == 1 ? 0 : 255), i);
        due.is("FULL", x.feed(32), -4);
        due.is("BAD ahead of FULL", x.feed(256), -2);
        due.is("bytes", x.count(4), 160);
        due.is("FAULT at 0", x.text(), -100);
        due.is("empty then", x.count(4), 0);
        for (int i = 0; i < 160; i++) x.feed(i % 2 == 0 ? 32 : 10);
        due.is("160 blanks", x.text(), -260);
        due.is("feed anew", x.feed(97), 1);
    }

    private static void fault(String text, int place) {
        PaidInKind x = new PaidInKind();
        due.is("FAULT of '" + text + "'", Due.text(x, text), place < 0 ? 1 : -100 - place);
        due.is("empty behind '" + text + "'", x.count(4), 0);
        due.is("TEXTS behind '" + text + "'", x.count(3), place < 0 ? 2 : 1);
    }

    /** The FAULT of an E that stands from byte 6 on. */
    private static void faultOfE(String e, int place) {
        fault("takes " + e + " ; worth 1 ; times 1 ;", place < 0 ? -1 : place + 6);
    }

    private static void faults() {
        fault("", 0);
        fault("   ", 3);
        fault("takes 1 ; worth 2 ; times 3 ;", -1);
        fault("takes 1;worth 2;times 3;", -1);
        fault(" \n takes(1);worth(2);times(3);\n ", -1);
        fault("takes 1 ; worth 2 ; times 3", 27);
        fault("takes 1 ; worth 2 ; times 3  ", 29);
        fault("takes 1 ; worth 2 ; times 3 ; ;", 30);
        fault("takes 1 ; worth 2 ; times 3 ; takes", 30);
        fault("takes 1 ; times 2 ; worth 3 ;", 10);
        fault("worth 1 ; takes 2 ; times 3 ;", 0);
        fault("takes ; worth 2 ; times 3 ;", 6);
        fault("takes 1 worth 2 ; times 3 ;", 8);
        fault("takes1;worth2;times3;", -1);
        fault("takesx 1 ; worth 2 ; times 3 ;", 0);
        fault("take 1 ; worth 2 ; times 3 ;", 0);
        fault("Takes 1 ; worth 2 ; times 3 ;", 0);
        fault("takes\t1 ; worth 2 ; times 3 ;", 5);
        fault("takes\r1 ; worth 2 ; times 3 ;", 5);
        faultOfE("1234", -1);
        faultOfE("0000", -1);
        faultOfE("12345", 0);
        faultOfE("00000", 0);
        faultOfE("1 + 12345", 4);
        faultOfE("1 12345", 2);
        faultOfE("1 2", 2);
        faultOfE("1a", 1);
        faultOfE("a1", 0);
        faultOfE("place1", 5);
        faultOfE("placefar", 0);
        faultOfE("here far", 5);
        faultOfE("farz", 0);
        faultOfE("zfar", 0);
        faultOfE("far`", 3);
        faultOfE("far{", 3);
        faultOfE("1:", 1);
        faultOfE("1/", 1);
        faultOfE("takes", 0);
        faultOfE("1 + worth", 4);
        faultOfE("1 or", 5);
        faultOfE("or 1", 0);
        faultOfE("1 or and 1", 5);
        faultOfE("1 or not 1", -1);
        faultOfE("1 and not not 1", -1);
        faultOfE("1 + not 1", 4);
        faultOfE("1 < not 1", 4);
        faultOfE("- not 1", 2);
        faultOfE("not 1 < 2", -1);
        faultOfE("1 < 2 < 3", 6);
        faultOfE("1 < 2 = 3", 6);
        faultOfE("(1 < 2) = 3", -1);
        faultOfE("not 1 = 2 < 3", 10);
        faultOfE("1 <= 2", 3);
        faultOfE("1 == 2", 3);
        faultOfE("1 > 2", 2);
        faultOfE("1 / 2", 2);
        faultOfE("1 * - 2", -1);
        faultOfE("1 * * 2", 4);
        faultOfE("1 + + 2", 4);
        faultOfE("1 - - 2", -1);
        faultOfE("(1", 3);
        faultOfE("(1))", 3);
        faultOfE("()", 1);
        faultOfE("(1) (2)", 4);
        faultOfE("(1 ; 2)", 3);
        faultOfE("1 + (2 or 3) * 4 and 5", -1);
        // the first FAULT counts, whatever comes behind it
        faultOfE("1 1 %%% 12345 foo", 2);
        faultOfE("% 1 1", 0);
        for (int letter = 128; letter < 256; letter += 31) faultOfE("1" + (char) letter, 1);
    }

    private static void openOnes() {
        faultOfE("(((((1)))))", -1);
        faultOfE("((((((1))))))", 5);
        faultOfE("-----1", -1);
        faultOfE("------1", 5);
        faultOfE("not not not not not 1", -1);
        faultOfE("not not not not not not 1", 20);
        faultOfE("not ( - ( - 1 ) )", -1);
        faultOfE("not ( - ( - - 1 ) )", 12);
        faultOfE("not ( - ( - ( 1 ) ) )", 12);
        faultOfE("not ( - ( not not 1 ) )", 14);
        // closed ones count no more
        faultOfE("(((((1))))) + (((((1))))) - -----1", -1);
        faultOfE("-----1 - -----1 * -----1", -1);
        faultOfE("not not not not not 1 and not not not not not 1", -1);
        // a not is open till its comparison ends
        faultOfE("not not not not not 1 < - 1", 24);
        faultOfE("not not not not not 1 < 1 and - 1", -1);
        faultOfE("not not not not not 1 - 1", -1);
        faultOfE("not not not not not 1 - - 1", 24);
        // a - is open till its ONE ends
        faultOfE("( - ( - ( 1 ) ) )", -1);
        faultOfE("( - ( - ( 1 ) - 1 * ( - 2 ) ) )", -1);
        faultOfE("( - ( - ( 1 ) - 1 * ( - - 2 ) ) )", 24);
        // what a FAULT left open counts no more
        PaidInKind x = new PaidInKind();
        due.is("left open", Due.text(x, "takes ((((("), -111);
        due.is("left open by not", Due.text(x, "takes not - - - - x"), -118);
        due.is("none is open now", Due.text(x, "takes (((((1)))));worth -----1;times 1;"), 1);
    }

    private static int valueOf(String e) {
        PaidInKind x = new PaidInKind();
        x.person(0, 7, 0b1011);
        x.set(0, 0, 998);
        x.road(0, 3, 8);
        Due.text(x, "takes 1 ; worth " + e + " ; times 1 ;");
        due.is("force, " + e, x.force(1), 0);
        return x.told(0, 13);
    }

    private static void value(String e, int want) {
        due.is("'" + e + "' is 0 .. 99", valueOf(e), Math.max(0, Math.min(99, want)));
        due.is("'" + e + "' is exact", valueOf("7 * ((" + e + ") = " + (want < 0 ? "0 - " + -want : want) + ")"), 7);
    }

    private static void values() {
        value("0", 0);
        value("0042", 42);
        value("9999", 9999);
        value("2 + 3 * 4", 14);
        value("(2 + 3) * 4", 20);
        value("9 - 3 - 2", 4);
        value("9 - 3 + 2", 8);
        value("9 - 3 * 2", 3);
        value("2 * 3 * 4 - 5 * 2 * 2 + 1", 5);
        value("- 3 * - 3", 9);
        value("-3 + 5", 2);
        value("3 - -5", 8);
        value("3 < 4", 1);
        value("4 < 4", 0);
        value("4 < 3", 0);
        value("4 = 4", 1);
        value("4 = 3", 0);
        value("1 + 2 < 1 * 4", 1);
        value("5 or 0", 1);
        value("0 or 0", 0);
        value("0 or 0 or -1", 1);
        value("5 and 3", 1);
        value("5 and 0", 0);
        value("1 and 1", 1);
        value("1 and 5", 1);
        value("0 and 1", 0);
        value("5 and 3 and 0", 0);
        value("1 or 1 and 0", 1);
        value("(1 or 1) and 0", 0);
        value("not 0", 1);
        value("not 5", 0);
        value("not not 5", 1);
        value("not 1 < 2", 0);
        value("not 0 and 0", 0);
        value("not (0 and 0)", 1);
        value("(5 or 0) + (3 and 2)", 2);
        value("(5)", 5);
        value("- (2 or 0)", -1);
        due.is("wraps: 2^32", valueOf("(1024*1024*4096 = 0) * 5"), 5);
        due.is("wraps: 2^31 is below 0", valueOf("(1024*1024*2048 < 0) * 5"), 5);
        due.is("wraps: -2^31", valueOf("(1024*1024*2048 = -(1024*1024*2048)) * 5"), 5);
        due.is("wraps: < is not by difference", valueOf("(1024*1024*2048 < 1) * 5"), 5);
    }

    private static void names() {
        value("place", 3);
        value("number", 7);
        value("known", 3);
        value("far", 8);
        value("here", 0);
        value("round", 998);
        PaidInKind x = new PaidInKind();
        x.person(0, 0, 0);
        x.set(2, 0, 6);
        Due.text(x, "takes far = 999 ; worth here * 50 + far * here + place ; times far * here + round ;");
        x.force(1);
        due.is("999: no way", x.told(0, 30), 1);
        due.is("0: here", x.told(0, 36), 0);
        due.is("here", x.told(0, 16), 56);
        due.is("elsewhere", x.told(0, 17), 7);
        due.is("ROUND 0", x.told(0, 26), 0);
        x.set(0, 0, 50);
        due.is("ROUND 50", x.told(0, 26), 50);
        x.set(0, 0, 100);
        due.is("ROUND 100: 99 at most", x.told(0, 26), 99);
        // what was once said must follow every change
        x = new PaidInKind();
        x.person(0, 4, 3);
        Due.text(x, "takes known = 2 ; worth known + number ; times far ;");
        x.force(1);
        due.is("known 2", x.told(0, 35), 1);
        due.is("known and number", x.told(0, 15), 6);
        due.is("no way", x.told(0, 25), 99);
        x.set(3, 0, 7);
        due.is("known 3", x.told(0, 35), 0);
        due.is("known more", x.told(0, 15), 7);
        x.set(1, 0, 0);
        due.is("number less", x.told(0, 15), 3);
        x.road(0, 5, 12);
        due.is("a ROAD", x.told(0, 25), 12);
        x.set(2, 0, 5);
        due.is("being there", x.told(0, 25), 0);
        x.force(0);
        due.is("by TEXT 0", x.told(0, 35), 0);
    }

    private static final int RULE = 0, AT = 1, NUMBER = 2, KNOWN = 3, ROUND = 4, MILES = 5, THINGS = 6;

    /** Whatever one or two things change that a text can look at, what it says then is of the new ones. */
    private static void everyChangeTells() {
        Random lot = new Random(7);
        int[] rounds = {0, 1, 4, 19, 20, 21, 979, 980, 997, 998, 999};
        int[] choices = {3, 8, 10, 9, rounds.length, 10};
        for (int object = 0; object < 150; object++) {
            PaidInKind x = new PaidInKind();
            x.person(0, 0, 0);
            Due.text(x, "takes round=place;worth known*10+number;times far+here*50;");
            Due.text(x, "takes round+place=4;worth number*9+known;times far*2+here;");
            int[] now = new int[THINGS];
            for (int change = 0; change < 70; change++) {
                for (int i = lot.nextInt(2); i < 2; i++) {
                    int thing = lot.nextInt(THINGS);
                    int choice = lot.nextInt(choices[thing]);
                    change(x, thing, thing == ROUND ? rounds[choice] : choice);
                    now[thing] = thing == ROUND ? rounds[choice] : choice;
                }
                if (now[RULE] > 0) tell(x, now);
            }
        }
    }

    private static void change(PaidInKind x, int thing, int v) {
        switch (thing) {
            case RULE: x.force(v); break;
            case AT: x.set(2, 0, v); break;
            case NUMBER: x.set(1, 0, v); break;
            case KNOWN: x.set(3, 0, (1 << v) - 1); break;
            case ROUND: x.set(0, 0, v); break;
            default: x.road(3, 4, v);
        }
    }

    /** Of the way to 4, which only 3 has a ROAD to. */
    private static void tell(PaidInKind x, int[] now) {
        int here = now[AT] == 4 ? 1 : 0;
        int far = here == 1 ? 0 : now[AT] == 3 && now[MILES] > 0 ? now[MILES] : 999;
        boolean one = now[RULE] == 1;
        String of = " of " + java.util.Arrays.toString(now);
        due.is("worth" + of, x.told(0, 14), one ? now[KNOWN] * 10 + now[NUMBER] : now[NUMBER] * 9 + now[KNOWN]);
        due.is("time" + of, x.told(0, 24), Math.min(99, one ? far + here * 50 : far * 2 + here));
        due.is("takes" + of, x.told(0, 34), now[ROUND] == (one ? 4 : 0) ? 1 : 0);
    }

    /** As many numbers as can wait to be joined at once: five for each of six depths. */
    private static void deepest() {
        String open = "0 or 1 and 1 < 1 + 1 * (";
        String e = open + open + open + open + open + "0 or 1 and 1 < 1 + 1 * 1)))))";
        PaidInKind x = new PaidInKind();
        x.person(0, 0, 0);
        due.is("deepest", Due.text(x, "takes 0;worth " + e.replace(" * ", "*").replace(" + ", "+").replace(" < ", "<") + "+1;times 0;"), 1);
        x.force(1);
        due.is("what it is", x.told(0, 10), 1);
    }

    private static void roomForTexts() {
        PaidInKind x = new PaidInKind();
        for (int i = 1; i <= 5; i++) {
            due.is("a FAULT takes no room", Due.text(x, "takes"), -105);
            due.is("TEXT " + i, Due.text(x, "takes 1 ; worth " + i + " ; times 1 ;"), i);
            due.is("TEXTS", x.count(3), i + 1);
        }
        Due.feed(x, "takes % 1");
        due.is("FULL ahead of a FAULT", x.text(), -4);
        due.is("THE TAPE stays", x.count(4), 9);
        due.is("FULL again", x.text(), -4);
    }

    private static void forces() {
        PaidInKind x = new PaidInKind();
        due.is("no such TEXT", x.force(1), -2);
        due.is("TEXT -1", x.force(-1), -2);
        due.is("TEXT 0", x.force(0), 0);
        Due.text(x, "takes 1 ; worth 77 ; times 1 ;");
        due.is("THE RULE stays", x.count(5), 0);
        due.is("force(1)", x.force(1), 0);
        due.is("THE RULE", x.count(5), 1);
        x.person(0, 0, 0);
        due.is("by it", x.told(0, 10), 77);
        due.is("refused", x.force(2), -2);
        due.is("force(0)", x.force(0), 1);
        due.is("by TEXT 0", x.told(0, 10), 0);
    }
}
