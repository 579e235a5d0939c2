/** The bounds of SHEETS and of what is taken for one of a sort or KIND: "Terms", ==== 3, and promises 25 to 29. */
public final class HostBoundsTest {
    private static final Due due = new Due("HostBoundsTest");
    private static final int BIG = Integer.MAX_VALUE, LOW = Integer.MIN_VALUE;
    private static final int BYTES = 0, SHORTS = 1, INTS = 2;

    public static void main(String[] args) {
        allMissingAtFirst();
        upTo40Items();
        allAre0();
        missingWhateverN();
        everyItem();
        lowestBits();
        copyAnyNumber();
        copyAsTheyWere();
        copyToTheEnds();
        copyOfNone();
        copyIsNoTie();
        peopleUpTo6();
        peopleFromAnywhere();
        whatStoodAheadCame();
        othersAreLeftOut();
        noneOfThem();
        signsOfSorts();
        takenForAKind();
        due.end();
    }

    /** Reads an item back: the NUMBER of one who comes by a row of three with it in the middle; NONE: it is none of 0 .. 9. */
    private static int digit(PaidInKind x, int sheet, int sort, int i) {
        int scratch = (sheet + 1) % 4;
        x.sheet(scratch, sort, 3);
        x.image();
        x.copy(sheet, i, scratch, 1, 1);
        int came = x.people(scratch, sort, 0, 1);
        int digit = came == 1 ? x.told(x.count(0) - 1, 1) : -1;
        x.back();
        return digit;
    }

    private static void digitsAre(String name, PaidInKind x, int sheet, int sort, String want) {
        for (int i = 0; i < want.length(); i++) due.is(name + ", item " + i, digit(x, sheet, sort, i), want.charAt(i) - '0');
        due.is(name + ", no more", x.cell(sheet, want.length(), 0), -12);
    }

    private static void put(PaidInKind x, int sheet, int sort, String digits) {
        x.sheet(sheet, sort, digits.length());
        for (int i = 0; i < digits.length(); i++) x.cell(sheet, i, digits.charAt(i) - '0');
    }

    /** "SHEETS 0 .. 3 are rows of numbers, or missing (as all are at first)" */
    private static void allMissingAtFirst() {
        PaidInKind x = new PaidInKind();
        x.person(0, 0, 0);
        for (int s = 0; s < 4; s++) {
            due.is("cell", x.cell(s, 0, 0), -11);
            due.is("copy from", x.copy(s, 0, s, 0, 0), -11);
            for (int sort = 0; sort < 3; sort++) due.is("people", x.people(s, sort, 0, 0), -11);
            due.is("tells", x.tells(s, 0, 0), -11);
        }
        for (int s : new int[] {-1, 4}) {
            due.is("no such: sheet", x.sheet(s, 0, 0), -2);
            due.is("no such: sheet, missing", x.sheet(s, -1, 0), -2);
            due.is("no such: cell", x.cell(s, 0, 0), -2);
            due.is("no such: people", x.people(s, 0, 0, 0), -2);
            due.is("no such: film", x.film(s, 0), -2);
        }
        // a row of none is not missing
        for (int s = 0; s < 4; s++) {
            due.is("a row of none", x.sheet(s, s % 3, 0), 1);
            due.is("it has no items", x.cell(s, 0, 0), -12);
            due.is("none of them come", x.people(s, s % 3, 0, 0), 0);
            due.is("none are copied", x.copy(s, 0, s, 0, 0), 0);
            due.is("it doesn't tell 8", x.tells(s, 0, 0), -2);
        }
    }

    /** "a row of n of a sort .. BAD: no such SHEET, sort; n above 40; -14" */
    private static void upTo40Items() {
        for (int sort = 0; sort < 3; sort++) {
            for (int n = 0; n <= 40; n++) {
                PaidInKind x = new PaidInKind();
                due.is("n " + n, x.sheet(3, sort, n), 1);
                due.is("behind the last", x.cell(3, n, 1), -12);
                if (n > 0) due.is("the last", x.cell(3, n - 1, 1), 1);
                due.is("ahead of the first", x.cell(3, -1, 1), -12);
                due.is("41", x.sheet(3, sort, 41), -2);
                due.is("-1", x.sheet(3, sort, -1), -14);
                due.is("n as it was", x.copy(3, n, 3, n, 0), 0);
                due.is("no more than it was", x.copy(3, n + 1, 3, 0, 0), -12);
                due.is("the sort as it was", x.people(3, sort, 0, 0), 0);
            }
            PaidInKind x = new PaidInKind();
            due.is("41 of a missing one", x.sheet(0, sort, 41), -2);
            due.is("-1 of a missing one", x.sheet(0, sort, -1), -14);
            due.is("missing still", x.cell(0, 0, 0), -11);
            due.is("highest n", x.sheet(0, sort, BIG), -2);
            due.is("lowest n", x.sheet(0, sort, LOW), -14);
        }
        PaidInKind x = new PaidInKind();
        due.is("sort 3", x.sheet(0, 3, 5), -2);
        due.is("sort -2", x.sheet(0, -2, 5), -2);
        due.is("sort 3, n -1", x.sheet(0, 3, -1), -2);
        due.is("SHEET 4, n -1", x.sheet(4, 0, -1), -2);
        due.is("SHEET -1, n -1", x.sheet(-1, 0, -1), -2);
    }

    /** "all 0": where a longer row stood, too, and where it was missing in between. */
    private static void allAre0() {
        for (int sort = 0; sort < 3; sort++) {
            PaidInKind x = new PaidInKind();
            put(x, 0, sort, "123456789");
            x.sheet(0, sort, 4);
            digitsAre("a shorter one", x, 0, sort, "0000");
            put(x, 0, sort, "98765");
            x.sheet(0, -1, 0);
            x.sheet(0, (sort + 1) % 3, 6);
            digitsAre("of another sort", x, 0, (sort + 1) % 3, "000000");
            put(x, 0, sort, "44");
            x.sheet(0, sort, 3);
            digitsAre("a longer one", x, 0, sort, "000");
        }
    }

    /** "or missing (sort -1: n does not matter): 1" */
    private static void missingWhateverN() {
        int[] any = {0, 1, 40, 41, -1, BIG, LOW};
        for (int n : any) {
            PaidInKind x = new PaidInKind();
            x.sheet(1, SHORTS, 8);
            due.is("n " + n, x.sheet(1, -1, n), 1);
            due.is("it is missing", x.cell(1, 0, 0), -11);
            due.is("again", x.sheet(1, -1, n), 1);
            due.is("missing as ever", x.copy(1, 0, 1, 0, 0), -11);
            due.is("it comes again", x.sheet(1, INTS, 1), 1);
            due.is("with an item", x.cell(1, 0, 7), 1);
        }
    }

    /** "Item i of a SHEET becomes v .. BAD: no such SHEET; -11; -12" */
    private static void everyItem() {
        for (int sheet = 0; sheet < 4; sheet++) {
            PaidInKind x = new PaidInKind();
            int sort = sheet % 3;
            x.sheet(sheet, sort, 9);
            for (int i = 0; i < 9; i++) due.is("cell", x.cell(sheet, i, 9 - i), 1);
            due.is("-1", x.cell(sheet, -1, 5), -12);
            due.is("9", x.cell(sheet, 9, 5), -12);
            digitsAre("each its own", x, sheet, sort, "987654321");
            x.cell(sheet, 0, 0);
            x.cell(sheet, 8, 8);
            digitsAre("the ends", x, sheet, sort, "087654328");
        }
    }

    /** "(of bytes, shorts its lowest 8, 16 bits)", which are Java's: so the highest of them is the sign. */
    private static void lowestBits() {
        int[] v = {0, 9, 127, 128, 255, 256, 256 + 9, -1, -128, -247, -256, 32767, 32768, 65535, 65536, 65536 + 9, 65536 + 255, -65536 + 255, 1 << 24, BIG, LOW, LOW + 9};
        // what one KNOWS who comes with it: -1 is nobody
        int[] asByte = {0, 9, 127, -1, -1, 0, 9, -1, -1, 9, 0, -1, 0, -1, 0, 9, -1, -1, 0, -1, 0, 9};
        int[] asShort = {0, 9, 127, 128, 255, -1, -1, -1, -1, -1, -1, -1, -1, -1, 0, 9, 255, 255, 0, -1, 0, 9};
        int[] asInt = {0, 9, 127, 128, 255, -1, -1, -1, -1, -1, -1, -1, -1, -1, -1, -1, -1, -1, -1, -1, -1, -1};
        int[][] as = {asByte, asShort, asInt};
        for (int sort = 0; sort < 3; sort++) {
            for (int i = 0; i < v.length; i++) {
                PaidInKind x = new PaidInKind();
                x.sheet(2, sort, 3);
                due.is("cell", x.cell(2, 2, v[i]), 1);
                due.is("sort " + sort + ", " + v[i] + ": come", x.people(2, sort, 0, 1), as[sort][i] < 0 ? 0 : 1);
                due.is("sort " + sort + ", " + v[i] + ": KNOWS", x.told(0, 3), as[sort][i] < 0 ? -2 : as[sort][i]);
            }
        }
    }

    /** "n numbers of a SHEET, from item i on, come to another one's item j on: n" */
    private static void copyAnyNumber() {
        for (int sort = 0; sort < 3; sort++) {
            for (int n = 0; n <= 7; n++) {
                PaidInKind x = new PaidInKind();
                put(x, 0, sort, "1234567");
                put(x, 3, sort, "9999999");
                due.is("n", x.copy(0, 0, 3, 0, n), n);
                digitsAre(n + " from the first on", x, 3, sort, "1234567".substring(0, n) + "9999999".substring(n));
                // reading SHEET 3 back goes by SHEET 0
                x = new PaidInKind();
                put(x, 2, sort, "1234567");
                put(x, 0, sort, "9999999");
                due.is("n", x.copy(2, 7 - n, 0, 7 - n, n), n);
                digitsAre(n + " to the last", x, 0, sort, "9999999".substring(n) + "1234567".substring(7 - n));
                due.is("8 are not there", x.copy(2, 0, 0, 0, 8), -12);
            }
        }
    }

    /** "(as they were)": where they lie over each other, all come as they stood ahead of the copy. */
    private static void copyAsTheyWere() {
        String digits = "12345678";
        for (int sort = 0; sort < 3; sort++) {
            for (int i = 0; i < 8; i++) {
                int j = (i + 1 + sort) % 8;
                int n = 8 - Math.max(i, j);
                PaidInKind x = new PaidInKind();
                put(x, 1, sort, digits);
                due.is("within", x.copy(1, i, 1, j, n), n);
                digitsAre(n + " from " + i + " to " + j, x, 1, sort, digits.substring(0, j) + digits.substring(i, i + n) + digits.substring(j + n));
                due.is("one more", x.copy(1, i, 1, j, n + 1), -12);
            }
        }
    }

    /** "-12 (also with n below 0)": whichever end is passed, of whichever of the two, and nothing came. */
    private static void copyToTheEnds() {
        PaidInKind x = new PaidInKind();
        put(x, 0, BYTES, "12345678");
        put(x, 1, BYTES, "999");
        int[][] outside = {{0, 0, 4}, {5, 0, 4}, {6, 0, 3}, {0, 1, 3}, {0, 2, 2}, {0, 3, 1}, {8, 0, 1}, {-1, 0, 1}, {0, -1, 1}, {-1, 0, 2}, {0, -1, 2}, {0, 0, -1},
            {3, 2, -1}, {-1, -1, 0}, {9, 0, 0}, {0, 4, 0}, {BIG, 0, 1}, {0, BIG, 1}, {1, 1, BIG}, {BIG, BIG, BIG}, {LOW, LOW, LOW}, {1, 1, LOW}, {BIG, 0, LOW}};
        for (int[] w : outside) due.is("from " + w[0] + " to " + w[1] + ", " + w[2], x.copy(0, w[0], 1, w[1], w[2]), -12);
        digitsAre("nothing came", x, 1, BYTES, "999");
        due.is("just to both ends", x.copy(0, 5, 1, 0, 3), 3);
        digitsAre("678", x, 1, BYTES, "678");
        due.is("from the one's end", x.copy(0, 7, 1, 1, 1), 1);
        digitsAre("688", x, 1, BYTES, "688");
    }

    /** With n 0 a place is outside if it lies behind the end, and not at it. */
    private static void copyOfNone() {
        for (int sort = 0; sort < 3; sort++) {
            PaidInKind x = new PaidInKind();
            put(x, 0, sort, "12345678");
            put(x, 1, sort, "999");
            for (int i = -1; i <= 9; i++) {
                for (int j = -1; j <= 4; j++) {
                    boolean in = i >= 0 && i <= 8 && j >= 0 && j <= 3;
                    due.is("from " + i + " to " + j, x.copy(0, i, 1, j, 0), in ? 0 : -12);
                }
            }
            digitsAre("nothing came", x, 1, sort, "999");
        }
    }

    /** "BAD: no such SHEET; -11; -13: they are of unlike sorts; -12", and what was copied is no longer the other's. */
    private static void copyIsNoTie() {
        PaidInKind x = new PaidInKind();
        put(x, 0, INTS, "123");
        put(x, 1, INTS, "000");
        x.copy(0, 0, 1, 0, 3);
        x.cell(0, 1, 9);
        due.is("as it was copied", digit(x, 1, INTS, 1), 2);
        x.sheet(0, -1, 0);
        due.is("even if the other is missing", digit(x, 1, INTS, 2), 3);
        for (int one = 0; one < 3; one++) {
            for (int other = 0; other < 3; other++) {
                x = new PaidInKind();
                due.is("both missing", x.copy(0, 0, 1, 0, 1), -11);
                x.sheet(0, one, 3);
                due.is("one missing, and outside", x.copy(0, 5, 1, 0, 1), -11);
                due.is("the other missing, n below 0", x.copy(1, 0, 0, 0, -1), -11);
                x.sheet(1, other, 3);
                due.is("sorts", x.copy(0, 0, 1, 0, 1), one == other ? 1 : -13);
                due.is("sorts, outside", x.copy(0, 0, 1, 0, 4), one == other ? -12 : -13);
                due.is("sorts, n below 0", x.copy(0, 0, 1, 0, -1), one == other ? -12 : -13);
                due.is("sorts, none", x.copy(0, 0, 1, 0, 0), one == other ? 0 : -13);
                due.is("no such, unlike or not", x.copy(0, 0, 4, 0, 1), -2);
            }
        }
    }

    /** "n of them (0 .. 6): how many came" */
    private static void peopleUpTo6() {
        for (int sort = 0; sort < 3; sort++) {
            for (int n = 0; n <= 6; n++) {
                PaidInKind x = new PaidInKind();
                put(x, 0, sort, "019128237346455564");
                due.is("n " + n, x.people(0, sort, 0, n), n);
                due.is("PEOPLE", x.count(0), n);
                for (int i = 0; i < n; i++) {
                    due.is("KIND", x.told(i, 5), i);
                    due.is("NUMBER", x.told(i, 1), i + 1);
                    due.is("KNOWS", x.told(i, 3), 9 - i);
                    due.is("AT, WANTS, MINUTES", x.told(i, 2) + x.told(i, 4) + x.told(i, 6), 0);
                }
                due.is("7", x.people(0, sort, 0, 7), -2);
                due.is("-1", x.people(0, sort, 0, -1), -2);
                due.is("as many as ever", x.count(0), n);
                due.is("of the rest as many as have room", x.people(0, sort, 0, 6), 6 - n);
                due.is("six", x.count(0), 6);
            }
        }
    }

    /** "from one on, three by three": from every item of a row of 8. */
    private static void peopleFromAnywhere() {
        for (int from = -1; from <= 9; from++) {
            PaidInKind x = new PaidInKind();
            put(x, 0, SHORTS, "01234123");
            boolean fits = from >= 0 && from <= 5;
            due.is("one from " + from, x.people(0, SHORTS, from, 1), fits ? 1 : -12);
            due.is("PEOPLE", x.count(0), fits ? 1 : 0);
            if (fits) due.is("who", x.told(0, 5) * 100 + x.told(0, 1) * 10 + x.told(0, 3), Integer.parseInt("01234123".substring(from, from + 3)));
            x = new PaidInKind();
            put(x, 0, SHORTS, "01234123");
            boolean both = from >= 0 && from <= 2;
            due.is("two from " + from, x.people(0, SHORTS, from, 2), both ? 2 : -12);
            due.is("PEOPLE of two", x.count(0), both ? 2 : fits ? 1 : 0);
        }
        PaidInKind x = new PaidInKind();
        put(x, 0, SHORTS, "01234123");
        for (int from : new int[] {BIG, BIG - 2, BIG - 17, LOW, LOW + 2, -3, -2}) due.is("from " + from, x.people(0, SHORTS, from, 6), -12);
        due.is("nobody", x.count(0), 0);
        // the last three of the longest row
        x.sheet(1, BYTES, 40);
        due.is("from 37", x.people(1, BYTES, 37, 1), 1);
        due.is("from 38", x.people(1, BYTES, 38, 1), -12);
    }

    /** "-12: what stood ahead came" */
    private static void whatStoodAheadCame() {
        for (int size = 0; size <= 18; size++) {
            PaidInKind x = new PaidInKind();
            put(x, 0, INTS, "111222333444555111".substring(0, size));
            due.is(size + " items", x.people(0, INTS, 0, 6), size == 18 ? 6 : -12);
            due.is("what stood ahead", x.count(0), size / 3);
            if (size >= 3) due.is("the last of them", x.told(size / 3 - 1, 5), size == 18 ? 1 : size / 3);
        }
        // those ahead who are left out count as little as ever, and it is outside even if nobody has room
        PaidInKind x = new PaidInKind();
        put(x, 0, INTS, "600111");
        due.is("one of two, then outside", x.people(0, INTS, 0, 3), -12);
        due.is("came", x.count(0), 1);
        due.is("who", x.told(0, 1), 1);
        for (int i = 0; i < 5; i++) x.person(0, 0, 0);
        due.is("no room, then outside", x.people(0, INTS, 3, 2), -12);
        due.is("no room", x.people(0, INTS, 3, 1), 0);
    }

    /** "(others are left out)": whoever person() refuses, by KIND, NUMBER, KNOWS or for want of room. */
    private static void othersAreLeftOut() {
        int[][] rows = {{6, 0, 0}, {-1, 0, 0}, {0, 10, 0}, {0, -1, 0}, {0, 0, 256}, {0, 0, -1}, {5, 9, 255}, {0, 0, 0}};
        for (int k = 0; k < rows.length; k++) {
            PaidInKind x = new PaidInKind();
            x.sheet(0, INTS, 9);
            int[] items = {1, 2, 3, rows[k][0], rows[k][1], rows[k][2], 4, 5, 6};
            for (int i = 0; i < 9; i++) x.cell(0, i, items[i]);
            boolean can = k >= 6;
            due.is("come", x.people(0, INTS, 0, 3), can ? 3 : 2);
            due.is("PEOPLE", x.count(0), can ? 3 : 2);
            due.is("the last of them", x.told(can ? 2 : 1, 5), 4);
            if (can) due.is("the one between", x.told(1, 3), rows[k][2]);
        }
    }

    /** "BAD: no such SHEET, sort, n; -13; -11; -12" with n 0: nobody is asked for, so no place is looked at. */
    private static void noneOfThem() {
        PaidInKind x = new PaidInKind();
        x.sheet(0, BYTES, 3);
        for (int from : new int[] {0, 1, 3, 4, -1, BIG, LOW}) due.is("from " + from, x.people(0, BYTES, from, 0), 0);
        due.is("unlike", x.people(0, SHORTS, 0, 0), -13);
        due.is("unlike", x.people(0, INTS, LOW, 0), -13);
        due.is("missing", x.people(1, BYTES, 0, 0), -11);
        due.is("sort 3", x.people(1, 3, 0, 0), -2);
        due.is("sort -1", x.people(1, -1, 0, 0), -2);
        due.is("nobody", x.count(0), 0);
    }

    /** "a SHEET that is taken for one of a sort": each for its own alone. */
    private static void signsOfSorts() {
        for (int sort = 0; sort < 3; sort++) {
            for (int as = 0; as < 3; as++) {
                PaidInKind x = new PaidInKind();
                put(x, 3, sort, "345");
                due.is("sort " + sort + " as " + as, x.people(3, as, 0, 1), sort == as ? 1 : -13);
                due.is("who came", x.count(0), sort == as ? 1 : 0);
                due.is("outside, of sort " + sort + " as " + as, x.people(3, as, 1, 1), sort == as ? -12 : -13);
                due.is("n 7, of sort " + sort + " as " + as, x.people(3, as, 1, 7), -2);
            }
        }
        PaidInKind x = new PaidInKind();
        x.person(0, 0, 0);
        x.film(0, 0);
        due.is("a film is of shorts", x.people(0, SHORTS, 0, 0), 0);
        due.is("not of ints", x.people(0, INTS, 0, 0), -13);
    }

    /** "One of PEOPLE taken for one of KIND k (0 .. 5), or one under that one (also by others between): the NUMBER." */
    private static void takenForAKind() {
        int[] over = {0b000001, 0b000011, 0b000101, 0b001011, 0b010101, 0b100001};
        PaidInKind x = new PaidInKind();
        for (int k = 0; k < 6; k++) due.is("nobody", x.taken(0, k), -11);
        for (int kind = 0; kind < 6; kind++) {
            x.person(kind, kind == 0 ? 0 : 10 - kind, 0);
            for (int k = 0; k < 6; k++) {
                due.is(kind + " for " + k, x.taken(kind, k), (over[kind] >> k & 1) == 0 ? -13 : kind == 0 ? 0 : 10 - kind);
                due.is("the next isn't there", x.taken(kind + 1, k), -11);
                due.is("-1 is nobody", x.taken(-1, k), -11);
            }
            due.is("KIND 6", x.taken(kind, 6), -2);
            due.is("KIND -1", x.taken(kind, -1), -2);
            due.is("KIND 6 of nobody", x.taken(kind + 1, 6), -2);
        }
        x.set(1, 5, 9);
        due.is("the NUMBER as it is now", x.taken(5, 0), 9);
    }
}
