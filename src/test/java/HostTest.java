/** Promises 25 to 29: sheet, cell, copy, people, taken. */
public final class HostTest {
    private static final Due due = new Due("HostTest");
    private static final int BIG = Integer.MAX_VALUE, LOW = Integer.MIN_VALUE;

    public static void main(String[] args) {
        sheets();
        cells();
        copies();
        copiesRefused();
        peopleCome();
        peopleRefused();
        taken();
        due.end();
    }

    private static void sheets() {
        PaidInKind x = new PaidInKind();
        for (int s = 0; s < 4; s++) {
            for (int sort = 0; sort < 3; sort++) {
                due.is("40", x.sheet(s, sort, 40), 1);
                due.is("cell 39", x.cell(s, 39, 1), 1);
                due.is("cell 40", x.cell(s, 40, 1), -12);
                due.is("0", x.sheet(s, sort, 0), 1);
                due.is("cell 0", x.cell(s, 0, 1), -12);
                due.is("41", x.sheet(s, sort, 41), -2);
                due.is("-1", x.sheet(s, sort, -1), -14);
                due.is("lowest", x.sheet(s, sort, LOW), -14);
            }
            due.is("refused changes nothing", x.cell(s, 0, 1), -12);
            due.is("missing, n 41", x.sheet(s, -1, 41), 1);
            due.is("it is missing", x.cell(s, 0, 1), -11);
            due.is("missing, n -1", x.sheet(s, -1, -1), 1);
        }
        due.is("SHEET 4", x.sheet(4, 0, 1), -2);
        due.is("SHEET -1", x.sheet(-1, 0, 1), -2);
        due.is("BAD ahead of -14", x.sheet(4, 0, -1), -2);
        due.is("sort 3 ahead of -14", x.sheet(0, 3, -1), -2);
        due.is("sort -2 ahead of -14", x.sheet(0, -2, -1), -2);
        // all 0, also where something stood
        x.person(5, 0, 0);
        x.sheet(0, 2, 8);
        for (int i = 0; i < 8; i++) x.cell(0, i, 5);
        due.is("5s", x.tells(0, 0, 0), 0);
        x.sheet(0, 2, 8);
        due.is("all 0", x.tells(0, 0, 0), -1);
    }

    private static void cells() {
        PaidInKind x = new PaidInKind();
        due.is("no such SHEET", x.cell(4, 0, 0), -2);
        due.is("SHEET -1", x.cell(-1, 0, 0), -2);
        due.is("missing, ahead of -12", x.cell(0, -1, 0), -11);
        x.sheet(0, 0, 3);
        due.is("-1", x.cell(0, -1, 0), -12);
        due.is("3", x.cell(0, 3, 0), -12);
        due.is("far outside", x.cell(0, BIG, 0), -12);
        due.is("lowest", x.cell(0, LOW, 0), -12);
        // KIND 5, NUMBER 3, KNOWS what is left of v
        knows(0, 256 + 7, 7);
        knows(0, 127, 127);
        knows(0, 128, -1);
        knows(0, 255, -1);
        knows(1, 255, 255);
        knows(1, 65536 + 200, 200);
        knows(1, 65535, -1);
        knows(1, 256, -1);
        knows(2, 255, 255);
        knows(2, 65536 + 200, -1);
    }

    /** Who comes by a SHEET of that sort with v, KNOWS so; below 0: nobody comes. */
    private static void knows(int sort, int v, int want) {
        PaidInKind x = new PaidInKind();
        x.sheet(1, sort, 3);
        x.cell(1, 0, 5);
        x.cell(1, 1, 3);
        x.cell(1, 2, v);
        due.is("sort " + sort + ", " + v, x.people(1, sort, 0, 1), want < 0 ? 0 : 1);
        if (want < 0) return;
        due.is("KNOWS", x.told(0, 3), want);
        due.is("NUMBER", x.told(0, 1), 3);
        due.is("KIND", x.told(0, 5), 5);
    }

    /** A SHEET of 1, 2 .. n. */
    private static void number(PaidInKind x, int sheet, int sort, int n) {
        x.sheet(sheet, sort, n);
        for (int i = 0; i < n; i++) x.cell(sheet, i, i + 1);
    }

    private static void copies() {
        PaidInKind x = new PaidInKind();
        for (int sort = 0; sort < 3; sort++) {
            rowIs(x, sort, 0, 3, 5, new int[] {1, 2, 3, 1, 2, 3, 4, 5});
            rowIs(x, sort, 3, 0, 5, new int[] {4, 5, 6, 7, 8, 6, 7, 8});
            rowIs(x, sort, 2, 2, 6, new int[] {1, 2, 3, 4, 5, 6, 7, 8});
            rowIs(x, sort, 8, 0, 0, new int[] {1, 2, 3, 4, 5, 6, 7, 8});
            rowIs(x, sort, 0, 8, 0, new int[] {1, 2, 3, 4, 5, 6, 7, 8});
        }
        number(x, 0, 1, 8);
        x.sheet(1, 1, 10);
        due.is("to another", x.copy(0, 6, 1, 8, 2), 2);
        x.sheet(2, 1, 8);
        due.is("and on", x.copy(1, 2, 2, 0, 8), 8);
        itemsAre(x, 2, 1, new int[] {0, 0, 0, 0, 0, 0, 7, 8});
        itemsAre(x, 0, 1, new int[] {1, 2, 3, 4, 5, 6, 7, 8});
        x.cell(0, 7, 9);
        itemsAre(x, 2, 1, new int[] {0, 0, 0, 0, 0, 0, 7, 8});
    }

    private static void rowIs(PaidInKind x, int sort, int i, int j, int n, int[] want) {
        number(x, 0, sort, 8);
        due.is("copy within", x.copy(0, i, 0, j, n), n);
        itemsAre(x, 0, sort, want);
    }

    /** Reads a SHEET of numbers 0 .. 9 back, each as the NUMBER of one who comes by it and goes again. */
    private static void itemsAre(PaidInKind x, int sheet, int sort, int[] want) {
        x.image();
        x.sheet(3, sort, 3);
        for (int t = 0; t < want.length; t++) {
            due.is("one item", x.copy(sheet, t, 3, 1, 1), 1);
            due.is("one comes", x.people(3, sort, 0, 1), 1);
            due.is("item " + t, x.told(x.count(0) - 1, 1), want[t]);
            x.back();
        }
    }

    private static void copiesRefused() {
        PaidInKind x = new PaidInKind();
        due.is("no such SHEET", x.copy(4, 0, 0, 0, 0), -2);
        due.is("no such other", x.copy(0, 0, 4, 0, 0), -2);
        due.is("SHEET -1", x.copy(-1, 0, 0, 0, 0), -2);
        due.is("other -1", x.copy(0, 0, -1, 0, 0), -2);
        due.is("both missing", x.copy(0, 0, 1, 0, 0), -11);
        x.sheet(0, 1, 8);
        due.is("other missing", x.copy(0, 0, 1, 0, 0), -11);
        due.is("one missing, ahead of -12", x.copy(1, -1, 0, 0, -1), -11);
        x.sheet(1, 2, 8);
        due.is("unlike, ahead of -12", x.copy(0, 0, 1, 0, 9), -13);
        due.is("unlike, none", x.copy(0, 0, 1, 0, 0), -13);
        x.sheet(1, 1, 6);
        int[][] wrong = {{-1, 0, 1}, {0, -1, 1}, {0, 0, -1}, {0, 0, 7}, {2, 0, 7}, {8, 0, 1}, {0, 6, 1}, {9, 0, 0},
            {0, 7, 0}, {BIG, 0, 1}, {0, BIG, 1}, {1, 1, BIG}, {BIG, BIG, BIG}, {LOW, 0, 1}, {0, LOW, LOW}, {3, 3, LOW}};
        for (int[] w : wrong) due.is("copy(0, " + w[0] + ", 1, " + w[1] + ", " + w[2] + ")", x.copy(0, w[0], 1, w[1], w[2]), -12);
        due.is("just so", x.copy(0, 2, 1, 0, 6), 6);
    }

    private static void peopleCome() {
        PaidInKind x = new PaidInKind();
        x.sheet(0, 2, 40);
        int[] row = {99, 0, 1, 2, 5, 9, 255, 6, 0, 0, 0, 10, 0, 0, 0, 256, -1, 0, 0, 1, 1, 1};
        for (int i = 0; i < row.length; i++) x.cell(0, i, row[i]);
        due.is("none of them", x.people(0, 2, 1, 0), 0);
        due.is("two of six", x.people(0, 2, 1, 6), 2);
        due.is("KIND of 1", x.told(1, 5), 5);
        due.is("NUMBER of 1", x.told(1, 1), 9);
        due.is("KNOWS of 1", x.told(1, 3), 255);
        due.is("the last", x.people(0, 2, 19, 1), 1);
        due.is("who", x.told(2, 5) * 100 + x.told(2, 1) * 10 + x.told(2, 3), 111);
        x.sheet(1, 0, 40);
        due.is("three have room", x.people(1, 0, 0, 6), 3);
        due.is("none have room", x.people(1, 0, 0, 6), 0);
        due.is("six", x.count(0), 6);
        due.is("outside, though none have room", x.people(1, 0, 38, 1), -12);
    }

    private static void peopleRefused() {
        PaidInKind x = new PaidInKind();
        due.is("no such SHEET", x.people(4, 0, 0, 0), -2);
        due.is("SHEET -1", x.people(-1, 0, 0, 0), -2);
        due.is("sort 3", x.people(0, 3, 0, 0), -2);
        due.is("sort -1", x.people(0, -1, 0, 0), -2);
        due.is("n 7", x.people(0, 0, 0, 7), -2);
        due.is("n -1", x.people(0, 0, 0, -1), -2);
        due.is("missing", x.people(0, 0, 0, 0), -11);
        due.is("missing, any sort", x.people(0, 2, -5, 6), -11);
        x.sheet(0, 1, 8);
        due.is("unlike", x.people(0, 0, 0, 0), -13);
        due.is("unlike, ahead of -12", x.people(0, 2, 50, 6), -13);
        due.is("n 7, ahead of -13", x.people(0, 2, 0, 7), -2);
        due.is("nothing is looked at", x.people(0, 1, 50, 0), 0);
        due.is("nor there", x.people(0, 1, LOW, 0), 0);
        int[] outside = {-1, -3, 6, 7, 8, 50, BIG, BIG - 1, LOW, LOW + 1};
        for (int from : outside) {
            due.is("from " + from, x.people(0, 1, from, 1), -12);
            due.is("from " + from + ", six", x.people(0, 1, from, 6), -12);
        }
        due.is("nobody came", x.count(0), 0);
        due.is("two stood ahead", x.people(0, 1, 0, 3), -12);
        due.is("they came", x.count(0), 2);
        due.is("from 5", x.people(0, 1, 5, 1), 1);
    }

    private static void taken() {
        PaidInKind x = new PaidInKind();
        for (int kind = 0; kind < 6; kind++) x.person(kind, 9 - kind, 0);
        String[] under = {"0", "01", "02", "013", "024", "05"};
        for (int one = 0; one < 6; one++) {
            for (int k = 0; k < 6; k++) {
                boolean is = under[one].indexOf('0' + k) >= 0;
                due.is("taken(" + one + ", " + k + ")", x.taken(one, k), is ? 9 - one : -13);
            }
        }
        due.is("KIND 6", x.taken(0, 6), -2);
        due.is("KIND -1", x.taken(0, -1), -2);
        due.is("KIND ahead of none such", x.taken(6, 6), -2);
        due.is("none such", x.taken(6, 0), -11);
        due.is("none", x.taken(-1, 5), -11);
    }
}
