/**
 * "Refusals, the first that the call's words name; they change nothing": every refusal of every promise, one step beyond
 * each bound, with all that later calls show; and that what is answered in thought changes nothing either.
 */
public final class RefusalsTest {
    private static final Due due = new Due("RefusalsTest");
    private static final int NONE = -1, BAD = -2, STATE = -3, FULL = -4, NOTHING = -11, OUTSIDE = -12, UNLIKE = -13, BELOW = -14;
    private static final int LOCAL = 0, JUDGE = 3, TINKER = 4, ALMSMAN = 5;
    private static final int BIG = Integer.MAX_VALUE, LOW = Integer.MIN_VALUE;

    public static void main(String[] args) {
        looksSeeChanges();
        roadsAndPeople();
        fullOfPeople();
        texts();
        fullOfTexts();
        trades();
        roundAtItsBound();
        whatWouldBeBest();
        worthTold();
        images();
        sheets();
        copies();
        peopleBySheets();
        taken();
        inThought();
        due.end();
    }

    /** PEOPLE 0 .. 3, TEXTS 0 and 1, SHEETS of 8 bytes, 8 shorts, 9 ints and none, a TEXT begun, an IMAGE of what was. */
    private static void town(PaidInKind x) {
        x.road(0, 1, 11);
        x.road(1, 7, 99);
        x.person(LOCAL, 3, 0b00001110);
        x.person(JUDGE, 9, 0b10000001);
        x.person(ALMSMAN, 5, 0b01000000);
        x.image();
        x.road(6, 7, 1);
        x.person(TINKER, 6, 0b00110000);
        x.set(0, 0, 500);
        x.set(2, 1, 7);
        x.set(2, 3, 4);
        x.set(4, 0, 0b10110000);
        x.set(4, 1, 0b00111111);
        x.trade(0, 2, 6);
        Due.text(x, "takes known;worth far+known;times round;");
        x.force(1);
        for (int s = 0; s < 3; s++) {
            int n = s == 2 ? 9 : 8;
            x.sheet(s, s, n);
            for (int i = 0; i < n; i++) x.cell(s, i, (s + i) % 5);
        }
        Due.feed(x, "takes 1;worth 7;times ");
    }

    private static void refused(Looks.Steps setup, String name, Looks.Call call, long want) {
        PaidInKind x = new PaidInKind();
        setup.on(x);
        due.is(name, call.on(x), want);
        due.is(name + " changes nothing", Looks.leaves(setup, call) ? 1 : 0, 1);
    }

    private static void refused(String name, Looks.Call call, long want) {
        refused(RefusalsTest::town, name, call, want);
    }

    private static String name(String call, int... of) {
        return call + java.util.Arrays.toString(of);
    }

    /** That the looks would see it if something were changed. */
    private static void changes(String name, Looks.Call call) {
        due.is(name + " is seen", Looks.leaves(RefusalsTest::town, call) ? 1 : 0, 0);
    }

    private static void looksSeeChanges() {
        for (int what = 0; what < 5; what++) {
            int w = what;
            changes("set " + w, x -> x.set(w, 3, 5));
        }
        for (int i = 0; i < 7; i++) {
            int one = i;
            changes("road from " + one, x -> x.road(one, 7, 50));
        }
        changes("person", x -> x.person(0, 0, 0));
        changes("feed", x -> x.feed(49));
        changes("text", x -> x.text());
        changes("force", x -> x.force(0));
        changes("trade", x -> x.trade(3, 2, 6));
        changes("round", x -> x.round());
        changes("film", x -> x.film(1, 0));
        changes("image", x -> x.image());
        changes("back", x -> x.back());
        for (int s = 0; s < 4; s++) {
            int sheet = s;
            changes("sheet of n", x -> x.sheet(sheet, 0, 7));
            if (s < 3) changes("sheet of sort", x -> x.sheet(sheet, (sheet + 1) % 3, sheet == 2 ? 9 : 8));
            if (s < 3) changes("sheet missing", x -> x.sheet(sheet, -1, 0));
            for (int i = 0; i < 8 && s < 3; i++) {
                int item = i;
                changes("cell", x -> x.cell(sheet, item, 5));
            }
        }
        changes("copy", x -> x.copy(0, 0, 0, 1, 1));
        changes("people", x -> x.people(0, 0, 0, 1));
    }

    private static void roadsAndPeople() {
        int[][] sets = {{-1, 0, 0}, {5, 0, 0}, {LOW, 0, 0}, {BIG, 0, 0}, {0, 0, -1}, {0, 0, 1000}, {0, 9, LOW}, {0, -1, BIG},
            {1, -1, 0}, {1, 4, 0}, {2, -1, 0}, {2, 4, 0}, {3, -1, 0}, {3, 4, 0}, {4, -1, 0}, {4, 4, 0}, {4, BIG, 0}, {4, LOW, 0},
            {1, 0, -1}, {1, 0, 10}, {2, 0, -1}, {2, 0, 8}, {3, 0, -1}, {3, 0, 256}, {4, 0, -1}, {4, 0, 256}, {1, 3, BIG}, {3, 3, LOW}};
        for (int[] w : sets) refused(name("set", w), x -> x.set(w[0], w[1], w[2]), BAD);
        int[][] roads = {{-1, 1, 5}, {8, 1, 5}, {1, -1, 5}, {1, 8, 5}, {BIG, 1, 5}, {1, LOW, 5}, {0, 0, 5}, {7, 7, 5}, {3, 3, 0}, {8, 8, 5},
            {0, 1, -1}, {0, 1, 100}, {1, 0, 100}, {0, 1, BIG}, {0, 1, LOW}, {2, 3, 100}, {2, 3, -1}};
        for (int[] w : roads) refused(name("road", w), x -> x.road(w[0], w[1], w[2]), BAD);
        int[][] persons = {{-1, 0, 0}, {6, 0, 0}, {0, -1, 0}, {0, 10, 0}, {0, 0, -1}, {0, 0, 256}, {BIG, 0, 0}, {0, LOW, 0}, {0, 0, BIG}};
        for (int[] w : persons) refused(name("person", w), x -> x.person(w[0], w[1], w[2]), BAD);
        int[][] tolds = {{0, -1}, {0, 9}, {0, 18}, {0, 19}, {0, 28}, {0, 29}, {0, 38}, {0, 39}, {0, 40}, {0, BIG}, {0, LOW}, {-1, 1}, {4, 1},
            {-1, 4}, {4, 4}, {4, 5}, {4, 6}, {4, 7}, {4, 8}, {-1, 10}, {4, 17}, {-1, 20}, {4, 27}, {-1, 30}, {4, 37}, {LOW, 3}, {BIG, 3}};
        for (int[] w : tolds) refused(name("told", w), x -> x.told(w[0], w[1]), BAD);
    }

    /** Six PEOPLE in ROUND 999, of whom the last could trade; no IMAGE. */
    private static void crowd(PaidInKind x) {
        for (int i = 0; i < 6; i++) x.person(i, 9 - i, 1 << i);
        x.set(4, 0, 0b100000);
        x.set(4, 5, 0b000001);
        x.sheet(0, 2, 18);
        x.set(0, 0, 999);
    }

    private static void fullOfPeople() {
        refused(RefusalsTest::crowd, "person, FULL", x -> x.person(0, 0, 0), FULL);
        refused(RefusalsTest::crowd, "KIND ahead of FULL", x -> x.person(6, 0, 0), BAD);
        refused(RefusalsTest::crowd, "NUMBER ahead of FULL", x -> x.person(0, 10, 0), BAD);
        refused(RefusalsTest::crowd, "KNOWS ahead of FULL", x -> x.person(0, 0, 256), BAD);
        refused(RefusalsTest::crowd, "people, all left out", x -> x.people(0, 2, 0, 6), 0);
        refused(RefusalsTest::crowd, "people, all left out, outside behind them", x -> x.people(0, 2, 3, 6), OUTSIDE);
        refused(RefusalsTest::crowd, "set of a seventh", x -> x.set(1, 6, 0), BAD);
        refused(RefusalsTest::crowd, "told of a seventh", x -> x.told(6, 1), BAD);
        refused(RefusalsTest::crowd, "pays, a seventh asks", x -> x.pays(6, 0, 0), BAD);
        refused(RefusalsTest::crowd, "pays, a seventh is asked", x -> x.pays(0, 6, 0), BAD);
        refused(RefusalsTest::crowd, "run, a seventh", x -> x.run(1, 16), BAD);
        refused(RefusalsTest::crowd, "taken, a seventh", x -> x.taken(6, 0), NOTHING);
    }

    private static void texts() {
        for (int letter : new int[] {-1, 256, LOW, BIG}) refused("feed(" + letter + ")", x -> x.feed(letter), BAD);
        for (int text : new int[] {-1, 2, 6, LOW, BIG}) refused("force(" + text + ")", x -> x.force(text), BAD);
    }

    /** Six TEXTS and 160 bytes, which a TEXT would be. */
    private static void library(PaidInKind x) {
        x.person(LOCAL, 1, 3);
        for (int i = 0; i < 5; i++) Due.text(x, "takes 1;worth " + i + ";times 0;");
        x.force(5);
        Due.feed(x, "takes 1;worth 7;times 3;");
        while (x.count(4) < 160) x.feed(32);
    }

    private static void fullOfTexts() {
        refused(RefusalsTest::library, "feed, FULL", x -> x.feed(32), FULL);
        refused(RefusalsTest::library, "feed, BAD ahead of FULL", x -> x.feed(256), BAD);
        refused(RefusalsTest::library, "feed, BAD below 0 ahead of FULL", x -> x.feed(-1), BAD);
        refused(RefusalsTest::library, "text, FULL", x -> x.text(), FULL);
        refused(RefusalsTest::library, "force(6)", x -> x.force(6), BAD);
        Looks.Steps faulty = x -> {
            for (int i = 0; i < 5; i++) Due.text(x, "takes 1;worth " + i + ";times 0;");
            Due.feed(x, "takes %");
        };
        refused(faulty, "text, FULL ahead of a FAULT", x -> x.text(), FULL);
        Looks.Steps empty = x -> {
            for (int i = 0; i < 5; i++) Due.text(x, "takes 1;worth " + i + ";times 0;");
        };
        refused(empty, "text, FULL of an empty TAPE", x -> x.text(), FULL);
    }

    private static void trades() {
        int[][] wrong = {{-1, 0, 0}, {4, 0, 0}, {0, -1, 0}, {0, 4, 0}, {0, 0, 0}, {3, 3, 6}, {0, 1, -1}, {0, 1, 8}, {LOW, 0, 0}, {0, BIG, 0}, {0, 1, BIG}};
        for (int[] w : wrong) {
            refused(name("pays", w), x -> x.pays(w[0], w[1], w[2]), BAD);
            refused(name("trade", w), x -> x.trade(w[0], w[1], w[2]), BAD);
        }
        // 1 doesn't KNOW the way to 4; 0 KNOWS that to 6; a TINKER of 6 doesn't tell 2 for nothing, who KNOWS no more than 6
        int[][] none = {{0, 1, 4}, {0, 2, 6}, {2, 3, 5}};
        refused("a trade for nothing is one", x -> x.pays(3, 2, 6), 8);
        for (int[] w : none) {
            Looks.Steps setup = y -> {
                town(y);
                y.set(3, 3, 0b01110000);
            };
            refused(setup, name("pays", w), x -> x.pays(w[0], w[1], w[2]), NONE);
            refused(setup, name("trade", w), x -> x.trade(w[0], w[1], w[2]), STATE);
        }
        int[][] runs = {{-1, 0}, {21, 0}, {LOW, 0}, {BIG, 0}, {0, -1}, {0, 2}, {0, 9}, {0, 14}, {20, LOW}, {20, BIG}};
        for (int[] w : runs) refused(name("run", w), x -> x.run(w[0], w[1]), BAD);
        for (int what : new int[] {-1, 4, LOW, BIG}) refused("all(" + what + ")", x -> x.all(what), BAD);
    }

    private static void roundAtItsBound() {
        refused(RefusalsTest::crowd, "round in 999", x -> x.round(), STATE);
        refused(x -> x.set(0, 0, 999), "round of nobody in 999", x -> x.round(), STATE);
    }

    private static void whatWouldBeBest() {
        int[][] soons = {{-1, 0}, {4, 0}, {0, -1}, {0, 8}, {LOW, 0}, {0, BIG}};
        for (int[] w : soons) refused(name("soon", w), x -> x.soon(w[0], w[1]), BAD);
        int[][] gifts = {{-1, 0}, {4, 0}, {0, -1}, {0, 2}, {BIG, 1}, {0, LOW}};
        for (int[] w : gifts) refused(name("gift", w), x -> x.gift(w[0], w[1]), BAD);
        for (int what : new int[] {-1, 2, LOW, BIG}) refused("missed(" + what + ")", x -> x.missed(what), BAD);
        int[][] walks = {{-1, 0, 0}, {4, 0, 0}, {0, -1, 0}, {0, 8, 0}, {0, 0, -1}, {0, 0, 8}, {BIG, 0, 0}, {0, LOW, 0}, {0, 0, BIG}};
        for (int[] w : walks) refused(name("walk", w), x -> x.walk(w[0], w[1], w[2]), BAD);
    }

    private static void worthTold() {
        int[][] tells = {{-1, 0, 0}, {4, 0, 0}, {0, -1, 0}, {0, 4, 0}, {0, 0, -1}, {0, 0, 6}, {LOW, 0, 0}, {0, BIG, 0}, {0, 0, LOW},
            {3, 4, 0}, {3, 0, 6}, {2, 4, 0}, {2, 0, 6}, {2, 0, 0}, {2, 0, 5}};
        for (int[] w : tells) refused(name("tells", w), x -> x.tells(w[0], w[1], w[2]), BAD);
        for (int what = 0; what < 6; what++) {
            int w = what;
            refused("tells of a missing SHEET " + w, x -> x.tells(3, 0, w), NOTHING);
        }
        int[][] films = {{-1, 0}, {4, 0}, {0, -1}, {0, 4}, {3, 4}, {LOW, 0}, {0, BIG}};
        for (int[] w : films) refused(name("film", w), x -> x.film(w[0], w[1]), BAD);
        int[][] chances = {{0, 0, 0}, {-1, 0, 0}, {21, 0, 0}, {1, -1, 0}, {1, 49, 0}, {1, 0, -1}, {1, 0, 2}, {LOW, 0, 0}, {BIG, 0, 0}, {20, BIG, 1}, {20, 48, LOW}};
        for (int[] w : chances) refused(name("chance", w), x -> x.chance(7, w[0], w[1], w[2]), PaidInKind.NO);
    }

    private static void images() {
        refused(RefusalsTest::crowd, "back without an IMAGE", x -> x.back(), STATE);
        refused(x -> { }, "back of a new object", x -> x.back(), STATE);
        for (int what : new int[] {-1, 6, LOW, BIG}) refused("count(" + what + ")", x -> x.count(what), BAD);
    }

    private static void sheets() {
        int[][] bad = {{-1, 0, 8}, {4, 0, 8}, {LOW, 0, 8}, {BIG, -1, 8}, {0, -2, 8}, {0, 3, 8}, {0, LOW, 8}, {0, BIG, 8}, {0, 0, 41}, {1, 1, 41},
            {2, 2, 41}, {3, 0, 41}, {0, 0, BIG}, {4, 0, -1}, {-1, -1, 0}, {0, 3, -1}, {0, -2, -1}};
        for (int[] w : bad) refused(name("sheet", w), x -> x.sheet(w[0], w[1], w[2]), BAD);
        int[][] below = {{0, 0, -1}, {1, 1, -1}, {2, 2, -1}, {3, 0, -1}, {0, 0, LOW}};
        for (int[] w : below) refused(name("sheet", w), x -> x.sheet(w[0], w[1], w[2]), BELOW);
        int[][] cells = {{-1, 0, 5, BAD}, {4, 0, 5, BAD}, {BIG, 0, 5, BAD}, {3, 0, 5, NOTHING}, {3, -1, 5, NOTHING}, {3, 40, 5, NOTHING},
            {0, -1, 5, OUTSIDE}, {0, 8, 5, OUTSIDE}, {1, 8, 5, OUTSIDE}, {2, 9, 5, OUTSIDE}, {2, 40, 5, OUTSIDE}, {0, LOW, 5, OUTSIDE}, {0, BIG, 5, OUTSIDE}};
        for (int[] w : cells) refused(name("cell", w), x -> x.cell(w[0], w[1], w[2]), w[3]);
    }

    /** The last of each row is what is due. */
    private static void copies() {
        int[][] wrong = {{-1, 0, 0, 0, 1, BAD}, {4, 0, 0, 0, 1, BAD}, {0, 0, -1, 0, 1, BAD}, {0, 0, 4, 0, 1, BAD}, {3, 0, 4, 0, 1, BAD}, {4, 0, 3, 0, -1, BAD},
            {3, 0, 0, 0, 1, NOTHING}, {0, 0, 3, 0, 1, NOTHING}, {3, 0, 3, 0, 0, NOTHING}, {0, 9, 3, 0, 1, NOTHING}, {3, 0, 1, 0, -1, NOTHING},
            {0, 0, 1, 0, 1, UNLIKE}, {1, 0, 2, 0, 1, UNLIKE}, {2, 0, 0, 0, 0, UNLIKE}, {0, 9, 1, 0, 1, UNLIKE}, {0, 0, 1, 0, -1, UNLIKE},
            {0, 0, 0, 1, -1, OUTSIDE}, {0, -1, 0, 1, 1, OUTSIDE}, {0, 0, 0, -1, 1, OUTSIDE}, {0, 1, 0, 0, 8, OUTSIDE}, {0, 0, 0, 1, 8, OUTSIDE},
            {0, 0, 0, 0, 9, OUTSIDE}, {0, 8, 0, 0, 1, OUTSIDE}, {0, 0, 0, 8, 1, OUTSIDE}, {0, 9, 0, 0, 0, OUTSIDE}, {0, 0, 0, 9, 0, OUTSIDE},
            {0, 1, 0, 2, BIG, OUTSIDE}, {0, BIG, 0, 2, 1, OUTSIDE}, {0, 1, 0, BIG, BIG, OUTSIDE}, {0, LOW, 0, 0, LOW, OUTSIDE}, {0, 1, 0, 2, LOW, OUTSIDE}};
        for (int[] w : wrong) refused(name("copy", w), x -> x.copy(w[0], w[1], w[2], w[3], w[4]), w[5]);
    }

    private static void peopleBySheets() {
        int[][] wrong = {{-1, 0, 0, 1, BAD}, {4, 0, 0, 1, BAD}, {0, -1, 0, 1, BAD}, {0, 3, 0, 1, BAD}, {0, 0, 0, -1, BAD}, {0, 0, 0, 7, BAD},
            {3, 3, 0, 1, BAD}, {3, 0, 0, 7, BAD}, {0, 1, 0, 7, BAD}, {0, LOW, 0, 1, BAD}, {0, 0, 0, BIG, BAD},
            {0, 1, 0, 1, UNLIKE}, {0, 2, 0, 0, UNLIKE}, {1, 0, 9, 1, UNLIKE}, {2, 1, -1, 1, UNLIKE},
            {3, 0, 0, 1, NOTHING}, {3, 1, 0, 0, NOTHING}, {3, 2, -1, 6, NOTHING},
            {0, 0, -1, 1, OUTSIDE}, {0, 0, 6, 1, OUTSIDE}, {0, 0, 7, 6, OUTSIDE}, {0, 0, 8, 1, OUTSIDE}, {0, 0, BIG, 6, OUTSIDE}, {0, 0, LOW, 6, OUTSIDE},
            {0, 0, BIG - 1, 2, OUTSIDE}, {0, 0, -3, 2, OUTSIDE}};
        for (int[] w : wrong) refused(name("people", w), x -> x.people(w[0], w[1], w[2], w[3]), w[4]);
        refused("people, n 0", x -> x.people(0, 0, 0, 0), 0);
    }

    private static void taken() {
        int[][] wrong = {{0, -1, BAD}, {0, 6, BAD}, {4, 6, BAD}, {-1, -1, BAD}, {0, LOW, BAD}, {0, BIG, BAD}, {-1, 0, NOTHING}, {4, 0, NOTHING}, {4, 5, NOTHING},
            {BIG, 0, NOTHING}, {LOW, 5, NOTHING}, {0, 1, UNLIKE}, {1, 2, UNLIKE}, {2, 4, UNLIKE}, {3, 1, UNLIKE}};
        for (int[] w : wrong) refused(name("taken", w), x -> x.taken(w[0], w[1]), w[2]);
    }

    private static void inThought(String name, Looks.Call call) {
        due.is(name + " is in thought", Looks.leaves(RefusalsTest::town, call) ? 1 : 0, 1);
    }

    private static void inThought() {
        for (int n = 0; n < 38; n++) {
            int what = n;
            inThought("told", x -> x.told(1, what));
        }
        for (int n = 0; n <= 20; n += 5) {
            int rounds = n;
            for (int what : new int[] {0, 1, 10, 13}) inThought("run", x -> x.run(rounds, what));
        }
        for (int n = 0; n < 8; n++) {
            int t = n;
            inThought("pays", x -> x.pays(0, 1, t));
            inThought("soon", x -> x.soon(1, t));
            inThought("walk", x -> x.walk(1, 0, t));
            inThought("all", x -> x.all(t / 2));
            inThought("gift", x -> x.gift(t / 2, t % 2));
            inThought("missed", x -> x.missed(t % 2));
            inThought("tells", x -> x.tells(t % 2, t / 2, t % 6));
            inThought("drawn", x -> x.drawn(t));
            inThought("chance", x -> x.chance(t, 20, 3 * t, t % 2));
            inThought("count", x -> x.count(t % 6));
            inThought("taken", x -> x.taken(t / 2, t % 6));
        }
        for (int what = 0; what < 6; what++) {
            int w = what;
            inThought("tells", x -> x.tells(0, 1, w));
            inThought("tells", x -> x.tells(1, 3, w));
        }
    }
}
