import java.util.Random;

/** All promises: long runs of calls by lot, always the same ones, held against PlainModel. */
public final class RandomRunsTest {
    private static final int RUNS = 1200, CALLS = 512, LOOK = 6 * 38 + 6, TEXTS = 20000;
    private static final Due due = new Due("RandomRunsTest");
    private static final String[] NAMES = {"place", "number", "known", "far", "here", "round"};
    private static final String[] SCRAPS = {"takes", "worth", "times", "or", "and", "not", "(", ")", ";", "+", "-", "*",
        "<", "=", "12345", "7", "x", "%", "\n", " ", "far", "\u00e9"};

    public static void main(String[] args) {
        texts(new Random(2));
        for (int run = 0; run < RUNS && due.wrong() < 20; run++) new RandomRunsTest(run).play();
        due.end();
    }

    /** Texts alone, right ones and spoilt ones: their numbers or FAULTS. */
    private static void texts(Random lot) {
        for (int i = 0; i < TEXTS; i++) {
            PaidInKind x = new PaidInKind();
            PlainModel y = new PlainModel();
            String text = textByLot(lot);
            for (int k = 0; k < text.length(); k++) due.is("feed", x.feed(text.charAt(k)), y.feed(text.charAt(k)));
            due.is("text of '" + text + "'", x.text(), y.text());
            x.person(0, 3, 9);
            y.person(0, 3, 9);
            due.is("force", x.force(1), y.force(1));
            for (int what = 10; what < 38; what++) due.is("'" + text + "': told(0, " + what + ")", x.told(0, what), y.told(0, what));
        }
    }

    private static String textByLot(Random lot) {
        StringBuilder text = new StringBuilder();
        int depth = lot.nextInt(3);
        for (String key : new String[] {"takes", "worth", "times"}) {
            text.append(key).append(lot.nextInt(8) == 0 ? "\n" : " ").append(e(lot, depth)).append(lot.nextBoolean() ? ";" : " ; ");
        }
        int spoilt = lot.nextInt(3) == 0 ? 1 + lot.nextInt(3) : 0;
        for (int i = 0; i < spoilt; i++) {
            int at = lot.nextInt(text.length() + 1);
            if (lot.nextInt(3) == 0 && at < text.length()) text.deleteCharAt(at);
            else text.insert(at, SCRAPS[lot.nextInt(SCRAPS.length)]);
        }
        if (lot.nextInt(30) == 0) text.setLength(lot.nextInt(text.length() + 1));
        return text.toString();
    }

    /** Without a thought for what may stand where: brackets come by lot, so that some of it is at fault. */
    private static String e(Random lot, int depth) {
        int sort = lot.nextInt(depth <= 0 ? 2 : 12);
        switch (sort) {
            case 0: return String.valueOf(lot.nextInt(lot.nextInt(9) == 0 ? 10000 : 20));
            case 1: return NAMES[lot.nextInt(NAMES.length)];
            case 2: return e(lot, depth - 1) + " or " + e(lot, depth - 1);
            case 3: return e(lot, depth - 1) + " and " + e(lot, depth - 1);
            case 4: return "not " + e(lot, depth - 1);
            case 5: return e(lot, depth - 1) + "<" + e(lot, depth - 1);
            case 6: return e(lot, depth - 1) + "=" + e(lot, depth - 1);
            case 7: return e(lot, depth - 1) + "+" + e(lot, depth - 1);
            case 8: return e(lot, depth - 1) + " - " + e(lot, depth - 1);
            case 9: return e(lot, depth - 1) + "*" + e(lot, depth - 1);
            case 10: return "-" + e(lot, depth - 1);
            default: return "(" + e(lot, depth) + ")";
        }
    }

    private final int run;
    private final Random lot;
    private final PaidInKind x = new PaidInKind();
    private final PlainModel y = new PlainModel();
    private int used = 0;

    private RandomRunsTest(int run) {
        this.run = run;
        this.lot = new Random(1000 + run);
    }

    /** Every other run ends with a look at all; no object is used for more calls than the document grants it. */
    private void play() {
        boolean looks = run % 2 == 0;
        int most = looks ? CALLS - LOOK : CALLS;
        town(most);
        while (used < most && due.wrong() < 20) call(lot.nextInt(40), most);
        if (!looks) return;
        for (int one = 0; one < 6; one++) {
            for (int what = 0; what < 38; what++) is(name("told", one, what), x.told(one, what), y.told(one, what));
        }
        for (int what = 0; what < 6; what++) is(name("count", what), x.count(what), y.count(what));
    }

    private void is(String call, long got, long want) {
        used++;
        due.is(call, got, want);
    }

    /** Something to begin with, so that there is to trade. */
    private void town(int most) {
        int roads = lot.nextInt(16);
        for (int i = 0; i < roads; i++) call(3, most);
        int people = lot.nextInt(7);
        for (int i = 0; i < people; i++) {
            int kind = lot.nextInt(6);
            int number = lot.nextInt(10);
            int knows = lot.nextInt(256) & lot.nextInt(256);
            is(name("person", kind, number, knows), x.person(kind, number, knows), y.person(kind, number, knows));
            set(4, i, lot.nextInt(256) | lot.nextInt(256));
            set(2, i, lot.nextInt(8));
        }
        while (lot.nextInt(3) != 0) call(7, most);
    }

    private void set(int what, int of, int v) {
        is(name("set", what, of, v), x.set(what, of, v), y.set(what, of, v));
    }

    private String name(String call, int... of) {
        return "run " + run + ": " + call + java.util.Arrays.toString(of);
    }

    /** A number below n, but now and then one that is none such. */
    private int upTo(int n) {
        int odd = lot.nextInt(60);
        if (odd == 0) return -1;
        if (odd == 1) return n;
        if (odd == 2) return lot.nextInt();
        return lot.nextInt(n);
    }

    private int one() {
        return upTo(Math.max(1, y.count(0)));
    }

    private void call(int which, int most) {
        int a = one(), b = one(), t = upTo(8), u = upTo(8), s = upTo(4), n = upTo(21), v = lot.nextInt();
        switch (which) {
            case 0: case 1: case 2: {
                int what = upTo(5);
                int[] highest = {1000, 10, 8, 256, 256};
                set(what, a, upTo(what >= 0 && what < 5 ? highest[what] : 9));
                break;
            }
            case 3: {
                int miles = lot.nextInt(4) == 0 ? 0 : upTo(100);
                is(name("road", t, u, miles), x.road(t, u, miles), y.road(t, u, miles));
                break;
            }
            case 4: {
                int kind = upTo(6), number = upTo(10), knows = upTo(256);
                is(name("person", kind, number, knows), x.person(kind, number, knows), y.person(kind, number, knows));
                break;
            }
            case 5: case 6: {
                int what = upTo(38);
                is(name("told", a, what), x.told(a, what), y.told(a, what));
                break;
            }
            case 7: {
                String text = textByLot(lot);
                if (used + text.length() >= most) break;
                for (int i = 0; i < text.length(); i++) is(name("feed", text.charAt(i)), x.feed(text.charAt(i)), y.feed(text.charAt(i)));
                is(name("text of '" + text + "'"), x.text(), y.text());
                break;
            }
            case 8: {
                int text = upTo(y.count(3));
                is(name("force", text), x.force(text), y.force(text));
                break;
            }
            case 9: case 10: is(name("pays", a, b, t), x.pays(a, b, t), y.pays(a, b, t)); break;
            case 11: case 12: is(name("trade", a, b, t), x.trade(a, b, t), y.trade(a, b, t)); break;
            case 13: is(name("round"), x.round(), y.round()); break;
            case 14: case 15: {
                int what = lot.nextBoolean() ? 10 + a : upTo(2);
                is(name("run", n, what), x.run(n, what), y.run(n, what));
                break;
            }
            case 16: is(name("all", t / 2), x.all(t / 2), y.all(t / 2)); break;
            case 17: is(name("soon", a, t), x.soon(a, t), y.soon(a, t)); break;
            case 18: is(name("gift", a, t / 4), x.gift(a, t / 4), y.gift(a, t / 4)); break;
            case 19: is(name("missed", t / 4), x.missed(t / 4), y.missed(t / 4)); break;
            case 20: case 21: is(name("walk", a, t, u), x.walk(a, t, u), y.walk(a, t, u)); break;
            default: call2(which, a, b, t, s, v);
        }
    }

    private void call2(int which, int a, int b, int t, int s, int v) {
        switch (which) {
            case 22: case 23: case 24: {
                int what = upTo(6);
                is(name("tells", s, a, what), x.tells(s, a, what), y.tells(s, a, what));
                break;
            }
            case 25: case 26: is(name("film", s, a), x.film(s, a), y.film(s, a)); break;
            case 27: is(name("drawn", v), x.drawn(v), y.drawn(v)); break;
            case 28: {
                int m = upTo(21), k = upTo(49), part = upTo(2);
                is(name("chance", v, m, k, part), x.chance(v, m, k, part), y.chance(v, m, k, part));
                break;
            }
            case 29: if (lot.nextInt(4) == 0) is(name("image"), x.image(), y.image()); break;
            case 30: if (lot.nextInt(4) == 0) is(name("back"), x.back(), y.back()); break;
            case 31: {
                int what = upTo(6);
                is(name("count", what), x.count(what), y.count(what));
                break;
            }
            case 32: {
                int sort = upTo(4) - 1, n = lot.nextInt(3) == 0 ? 8 : upTo(41);
                is(name("sheet", s, sort, n), x.sheet(s, sort, n), y.sheet(s, sort, n));
                break;
            }
            case 33: case 34: case 35: {
                int i = upTo(10), w = lot.nextBoolean() ? lot.nextInt(10) : lot.nextInt(70000);
                is(name("cell", s, i, w), x.cell(s, i, w), y.cell(s, i, w));
                break;
            }
            case 36: case 37: {
                int other = upTo(4), j = upTo(9), n = upTo(9);
                is(name("copy", s, t, other, j, n), x.copy(s, t, other, j, n), y.copy(s, t, other, j, n));
                break;
            }
            case 38: {
                int sort = upTo(3), n = upTo(4);
                is(name("people", s, sort, t, n), x.people(s, sort, t, n), y.people(s, sort, t, n));
                break;
            }
            default: {
                int k = upTo(6);
                is(name("taken", a, k), x.taken(a, k), y.taken(a, k));
            }
        }
    }
}
