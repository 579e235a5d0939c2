/** Promises 18 to 24: tells, film, drawn, chance, image, back, count. */
public final class WorthTest {
    private static final Due due = new Due("WorthTest");
    private static final int LOCAL = 0, MISER = 1, BOY = 2, TINKER = 4, ALMSMAN = 5;
    private static final long NO = -4611686018427387904L;

    public static void main(String[] args) {
        films();
        tellings();
        tellsWhatCouldBe();
        tellsRefused();
        draws();
        chances();
        images();
        counts();
        due.end();
    }

    /** A BOY of 4 AT 0, a LOCAL, another BOY of 4; 6 miles from 0 to 1. */
    private static PaidInKind boys() {
        PaidInKind x = new PaidInKind();
        x.road(0, 1, 6);
        x.person(BOY, 4, 0);
        x.person(LOCAL, 4, 0);
        x.person(BOY, 4, 255);
        return x;
    }

    private static void films() {
        PaidInKind x = boys();
        due.is("film", x.film(3, 0), 4 + 10 + 6 * 103);
        due.is("what was filmed", x.tells(3, 0, 0), -1);
        due.is("8 shorts", x.people(3, 1, 8, 0), 0);
        due.is("not bytes", x.people(3, 0, 0, 0), -13);
        due.is("8 are there", x.cell(3, 7, 0), 1);
        due.is("no more", x.cell(3, 8, 0), -12);
        x.sheet(3, 2, 40);
        due.is("film over another", x.film(3, 1), 6 + 6 * 99);
        due.is("8 again", x.cell(3, 8, 0), -12);
        due.is("no such SHEET", x.film(4, 0), -2);
        due.is("SHEET -1", x.film(-1, 0), -2);
        due.is("no such one", x.film(2, 3), -2);
        due.is("none", x.film(2, -1), -2);
        due.is("nothing came", x.cell(2, 0, 0), -11);
    }

    private static void tellings() {
        PaidInKind x = boys();
        x.film(0, 0);
        due.is("first otherwise", x.tells(0, 0, 0), -1);
        due.is("KINDS", x.tells(0, 0, 1), 1 << BOY);
        due.is("NUMBERS", x.tells(0, 0, 2), 1 << 4);
        due.is("PLACES", x.tells(0, 0, 3), 1);
        due.is("TEXTS", x.tells(0, 0, 4), 1);
        due.is("PEOPLE", x.tells(0, 0, 5), 0b101);
        due.is("of another", x.tells(0, 1, 0), 0);
        due.is("KINDS of another", x.tells(0, 1, 1), 1 << BOY);
        due.is("NUMBERS of another", x.tells(0, 1, 2), 0);
        due.is("PEOPLE, whomever is asked", x.tells(0, 1, 5), 0b101);
        for (int i = 7; i >= 0; i--) {
            x.cell(0, i, -1);
            due.is("first otherwise", x.tells(0, 0, 0), i);
        }
        due.is("nobody", x.tells(0, 0, 5), 0);
        // in thought: nobody was changed
        due.is("KIND", x.told(0, 5), BOY);
        due.is("NUMBER", x.told(0, 1), 4);
        due.is("AT", x.told(0, 2), 0);
        due.is("THE RULE", x.count(5), 0);
    }

    private static void tellsWhatCouldBe() {
        PaidInKind x = new PaidInKind();
        x.person(ALMSMAN, 3, 0);
        x.person(MISER, 3, 7);
        x.person(TINKER, 4, 7);
        Due.text(x, "takes 1 ; worth 0 ; times 1 ;");
        Due.text(x, "takes 1 ; worth number * 0 + known * 10 ; times 1 ;");
        Due.text(x, "takes 1 ; worth here ; times 1 ;");
        x.sheet(1, 0, 8);
        due.is("an ALMSMAN's: KINDS", x.tells(1, 0, 1), 1 << ALMSMAN);
        due.is("an ALMSMAN's: NUMBERS", x.tells(1, 0, 2), 1023);
        due.is("an ALMSMAN's: PLACES", x.tells(1, 0, 3), 255);
        due.is("an ALMSMAN's: TEXTS", x.tells(1, 0, 4), 0b1111);
        due.is("a MISER's: TEXTS", x.tells(1, 1, 4), 0b0010);
        x.force(1);
        due.is("by TEXT 1: KINDS", x.tells(1, 1, 1), 1 << LOCAL | 1 << MISER | 1 << ALMSMAN);
        due.is("by TEXT 1: NUMBERS of a TINKER", x.tells(1, 2, 2), 0b11);
        due.is("by TEXT 1: PEOPLE", x.tells(1, 2, 5), 0b011);
        x.force(2);
        due.is("by TEXT 2: 3 known, of a MISER", x.film(1, 1), 8 * 60);
        due.is("by TEXT 2: PLACES", x.tells(1, 1, 3), 255);
        due.is("by TEXT 2: TEXTS", x.tells(1, 1, 4), 0b0100);
        x.force(3);
        x.set(2, 1, 5);
        x.film(1, 1);
        due.is("by TEXT 3: PLACES", x.tells(1, 1, 3), 1 << 5);
        // bytes are Java's, with a sign
        x.force(0);
        x.sheet(2, 0, 8);
        x.sheet(3, 2, 8);
        for (int i = 0; i < 8; i++) {
            x.cell(2, i, i == 5 ? 256 : 198);
            x.cell(3, i, i == 5 ? 0 : 198);
        }
        due.is("198 is no byte", x.tells(2, 1, 0), 0);
        due.is("198 is an int", x.tells(3, 1, 0), -1);
        x.cell(3, 7, 65536 + 198);
        due.is("nor is an int cut", x.tells(3, 1, 0), 7);
    }

    private static void tellsRefused() {
        PaidInKind x = boys();
        due.is("no such SHEET", x.tells(4, 0, 0), -2);
        due.is("SHEET -1", x.tells(-1, 0, 0), -2);
        due.is("no such one, ahead of -11", x.tells(0, 3, 0), -2);
        due.is("none, ahead of -11", x.tells(0, -1, 0), -2);
        due.is("what 6, ahead of -11", x.tells(0, 0, 6), -2);
        due.is("what -1, ahead of -11", x.tells(0, 0, -1), -2);
        for (int what = 0; what < 6; what++) {
            x.sheet(0, -1, 0);
            due.is("missing", x.tells(0, 0, what), -11);
            x.sheet(0, 1, 7);
            due.is("7", x.tells(0, 0, what), -2);
            x.sheet(0, 1, 9);
            due.is("9", x.tells(0, 0, what), -2);
            x.sheet(0, 1, 0);
            due.is("none", x.tells(0, 0, what), -2);
        }
    }

    private static PaidInKind crowd(int people) {
        PaidInKind x = new PaidInKind();
        x.road(0, 1, 7);
        x.road(1, 2, 3);
        x.road(2, 6, 40);
        for (int i = 0; i < people; i++) {
            x.person(i, 3 * i % 10, 17 * i);
            x.set(4, i, 255 - 9 * i);
            x.set(2, i, i);
        }
        return x;
    }

    /** By run(), on what is truly as it would be by lot. */
    private static int drawnTruly(int seed, int people) {
        PaidInKind x = crowd(people);
        int z = seed;
        for (int i = 0; i < people; i++) {
            z = z * 1103515245 + 12345;
            x.set(3, i, z >>> 9 & 255);
        }
        return x.run(5, 0);
    }

    private static void draws() {
        int[] seeds = {0, 1, -1, 12345, Integer.MAX_VALUE, Integer.MIN_VALUE, 777777777};
        for (int people = 0; people <= 6; people++) {
            PaidInKind x = crowd(people);
            int before = x.all(0);
            for (int seed : seeds) due.is("drawn(" + seed + ")", x.drawn(seed), drawnTruly(seed, people));
            due.is("in thought", x.all(0), before);
            due.is("ROUND stays", x.told(0, 0), 0);
        }
        // one alone is told nothing: z is 12345, 12345 >>> 9 is 24: 2 bits
        PaidInKind alone = crowd(1);
        due.is("drawn(0) of one", alone.drawn(0), 2);
        // z is 1103527590, >>> 9 is 2155327, % 256 is 63: 6 bits
        due.is("drawn(1) of one", alone.drawn(1), 6);
        // 5 ROUNDS, not more: one way an asking, from who tells for nothing
        PaidInKind x = new PaidInKind();
        x.person(LOCAL, 0, 0);
        x.person(ALMSMAN, 0, 0);
        x.set(4, 0, 255);
        int seed = 0;
        for (int s = 0; s < 100000 && seed == 0; s++) {
            int z = s * 1103515245 + 12345;
            int y = z * 1103515245 + 12345;
            if ((z >>> 9) % 256 == 0 && (y >>> 9) % 256 == 255) seed = s;
        }
        due.is("a seed was found", seed == 0 ? 0 : 1, 1);
        due.is("5 ROUNDS", x.drawn(seed), 13);
    }

    private static void chances() {
        PaidInKind x = crowd(5);
        int[] seeds = {0, 99, -3, Integer.MAX_VALUE - 2};
        for (int seed : seeds) {
            for (int m = 1; m <= 20; m += m < 6 ? 1 : 7) {
                for (int k = 0; k <= 48; k += 3) chance(x, seed, m, k);
            }
        }
        int[][] wrong = {{0, 0, 0}, {-1, 0, 0}, {21, 0, 0}, {1, -1, 0}, {1, 49, 0}, {1, 0, -1}, {1, 0, 2}};
        for (int[] w : wrong) due.is("NO", x.chance(5, w[0], w[1], w[2]), NO);
        due.is("sure, above", x.chance(5, 20, 0, 0), 1);
        due.is("sure, below", x.chance(5, 20, 0, 1), 1);
        due.is("never, above", x.chance(5, 20, 48, 0), 0);
        due.is("never, below", x.chance(5, 20, 48, 1), 1);
    }

    private static void chance(PaidInKind x, int seed, int m, int k) {
        int above = 0;
        for (int i = 0; i < m; i++) if (x.drawn(seed + i) >= k) above++;
        int divisor = java.math.BigInteger.valueOf(above).gcd(java.math.BigInteger.valueOf(m)).intValue();
        due.is("chance above", x.chance(seed, m, k, 0), above / divisor);
        due.is("chance below", x.chance(seed, m, k, 1), m / divisor);
    }

    private static void images() {
        PaidInKind x = boys();
        due.is("no IMAGE", x.back(), -3);
        due.is("image", x.image(), 3);
        int[][] was = new int[3][9];
        for (int i = 0; i < 3; i++) for (int what = 0; what < 9; what++) was[i][what] = x.told(i, what);
        x.sheet(1, 2, 5);
        Due.text(x, "takes 1 ; worth 5 ; times 9 ;");
        Due.feed(x, "abc");
        for (int again = 0; again < 2; again++) {
            x.force(1);
            x.road(0, 1, 0);
            x.road(4, 5, 9);
            x.set(0, 0, 44);
            for (int i = 0; i < 3; i++) {
                x.set(1, i, 9);
                x.set(2, i, 7);
                x.set(3, i, 85 << i & 255);
                x.set(4, i, 255);
            }
            x.person(TINKER, 9, 255);
            x.round();
            due.is("all is another: MINUTES", x.count(2) > 0 ? 1 : 0, 1);
            due.is("back", x.back(), 3);
            for (int i = 0; i < 3; i++) {
                for (int what = 0; what < 9; what++) due.is("as it was: told(" + i + ", " + what + ")", x.told(i, what), was[i][what]);
            }
            due.is("who came since went", x.told(3, 1), -2);
            due.is("PEOPLE", x.count(0), 3);
            due.is("ROADS", x.count(1), 1);
            due.is("far again", x.told(1, 11), 6);
            due.is("MINUTES", x.count(2), 0);
            due.is("THE RULE", x.count(5), 0);
            due.is("TEXTS stay", x.count(3), 2);
            due.is("THE TAPE stays", x.count(4), 3);
            due.is("SHEETS stay", x.cell(1, 4, 1), 1);
        }
        due.is("one comes anew", x.person(ALMSMAN, 1, 2), 3);
        due.is("as one comes", x.told(3, 4) + x.told(3, 2) + x.told(3, 6), 0);
        x.road(0, 1, 0);
        due.is("another image", x.image(), 4);
        x.road(0, 1, 3);
        x.person(LOCAL, 0, 0);
        due.is("back to it", x.back(), 4);
        due.is("KIND", x.told(3, 5), ALMSMAN);
        due.is("no ROADS", x.count(1), 0);
        PaidInKind nobody = new PaidInKind();
        due.is("an image of nobody", nobody.image(), 0);
        nobody.person(LOCAL, 0, 0);
        due.is("back to nobody", nobody.back(), 0);
        due.is("nobody", nobody.count(0), 0);
    }

    private static void counts() {
        PaidInKind x = boys();
        x.road(6, 7, 1);
        Due.text(x, "takes 1 ; worth 5 ; times 9 ;");
        Due.feed(x, "ab");
        x.force(1);
        x.person(ALMSMAN, 0, 1);
        x.trade(0, 3, 0);
        int[] due0 = {4, 2, 20, 2, 2, 1};
        for (int what = 0; what < 6; what++) due.is("count(" + what + ")", x.count(what), due0[what]);
        due.is("count(-1)", x.count(-1), -2);
        due.is("count(6)", x.count(6), -2);
    }
}
