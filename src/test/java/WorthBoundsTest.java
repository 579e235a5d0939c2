/** The bounds of what was told of worth, of what is drawn by lot, of THE IMAGE and of what is counted: promises 18 to 24. */
public final class WorthBoundsTest {
    private static final Due due = new Due("WorthBoundsTest");
    private static final int LOCAL = 0, MISER = 1, BOY = 2, JUDGE = 3, TINKER = 4, ALMSMAN = 5;
    private static final int BIG = Integer.MAX_VALUE, LOW = Integer.MIN_VALUE;

    public static void main(String[] args) {
        firstThatIsOtherwise();
        eightItems();
        everyKind();
        everyNumber();
        everyPlace();
        everyText();
        everyone();
        refusalsInTheirOrder();
        filmIsEightShorts();
        filmOfTheMost();
        drawnOfOne();
        drawnOfEach();
        drawnBehind5Rounds();
        seedsWrap();
        kOrMore();
        fromOneToTwentySeeds();
        lowestTerms();
        noImage();
        imageKeepsEachThing();
        imageKeepsEveryRoad();
        imageLeavesTheRest();
        whoCameSinceGoes();
        theLastImageCounts();
        counts();
        due.end();
    }

    private static PaidInKind withRule(String worth) {
        PaidInKind x = new PaidInKind();
        Due.text(x, "takes 1;worth " + worth + ";times 1;");
        x.force(1);
        return x;
    }

    private static void fill(PaidInKind x, int sheet, int sort, int v) {
        x.sheet(sheet, sort, 8);
        for (int i = 0; i < 8; i++) x.cell(sheet, i, v);
    }

    /** "the first that is otherwise (what 0; NONE)" */
    private static void firstThatIsOtherwise() {
        for (int sort = 0; sort < 3; sort++) {
            PaidInKind x = withRule("10+place");
            x.person(LOCAL, 0, 0);
            x.sheet(0, sort, 8);
            for (int i = 0; i < 8; i++) {
                due.is("first otherwise", x.tells(0, 0, 0), i);
                x.cell(0, i, 10 + i);
            }
            due.is("none is", x.tells(0, 0, 0), -1);
            for (int i = 7; i >= 0; i--) {
                x.cell(0, i, i % 2 == 0 ? 9 + i : 11 + i);
                due.is("one less or more", x.tells(0, 0, 0), i);
                due.is("to nobody", x.tells(0, 0, 5), 0);
            }
        }
    }

    /** "BAD: it doesn't tell 8" */
    private static void eightItems() {
        PaidInKind x = new PaidInKind();
        x.person(ALMSMAN, 0, 0);
        for (int n = 0; n <= 40; n++) {
            x.sheet(0, n % 3, n);
            due.is(n + " items: first", x.tells(0, 0, 0), n == 8 ? -1 : -2);
            due.is(n + " items: PEOPLE", x.tells(0, 0, 5), n == 8 ? 1 : -2);
        }
    }

    /** "KINDS (bits 0 .. 5)" */
    private static void everyKind() {
        int[] worth = {11, 22, 20, 27, 10, 0};
        for (int kind = 0; kind < 6; kind++) {
            PaidInKind x = withRule("11");
            x.person(kind, 9, 0);
            due.is("film", x.film(0, 0), 8 * worth[kind]);
            due.is("just KIND " + kind, x.tells(0, 0, 1), 1 << kind);
            x.person((kind + 1) % 6, 9, 0);
            due.is("whatever one's own KIND is", x.tells(0, 1, 1), 1 << kind);
            fill(x, 0, 2, 12);
            due.is("none", x.tells(0, 0, 1), 0);
        }
        PaidInKind x = withRule("0");
        x.person(JUDGE, 0, 0);
        fill(x, 0, 0, 0);
        due.is("all but a JUDGE", x.tells(0, 0, 1), 0b110111);
        fill(x, 0, 0, 5);
        due.is("a JUDGE", x.tells(0, 0, 1), 1 << JUDGE);
    }

    /** "NUMBERS (bits 0 .. 9)" */
    private static void everyNumber() {
        PaidInKind x = withRule("20");
        x.person(BOY, 0, 0);
        x.person(TINKER, 0, 0);
        x.person(LOCAL, 0, 0);
        for (int number = 0; number <= 9; number++) {
            fill(x, 0, 1, 20 + number);
            due.is("a BOY's", x.tells(0, 0, 2), 1 << number);
            fill(x, 0, 1, 10 + number / 2);
            due.is("a TINKER's, cut", x.tells(0, 1, 2), 3 << number / 2 * 2);
        }
        fill(x, 0, 1, 19);
        due.is("below all", x.tells(0, 0, 2), 0);
        fill(x, 0, 1, 30);
        due.is("above all", x.tells(0, 0, 2), 0);
        fill(x, 0, 1, 20);
        due.is("all of a LOCAL", x.tells(0, 2, 2), 1023);
        x = withRule("number");
        x.person(LOCAL, 3, 0);
        for (int number = 0; number <= 9; number++) {
            fill(x, 0, 1, number);
            due.is("by a rule", x.tells(0, 0, 2), 1 << number);
        }
    }

    /** "PLACES (bits 0 .. 7) where one could be" */
    private static void everyPlace() {
        PaidInKind x = withRule("here*50");
        x.person(MISER, 0, 0);
        for (int at = 0; at < 8; at++) {
            x.set(2, 0, at);
            x.film(1, 0);
            x.set(2, 0, (at + 3) % 8);
            due.is("AT " + at, x.tells(1, 0, 3), 1 << at);
            due.is("first otherwise now", x.tells(1, 0, 0), Math.min(at, (at + 3) % 8));
        }
        fill(x, 1, 1, 0);
        due.is("nowhere", x.tells(1, 0, 3), 0);
        x = withRule("7");
        x.person(LOCAL, 0, 0);
        fill(x, 1, 1, 7);
        due.is("anywhere", x.tells(1, 0, 3), 255);
    }

    /** "TEXTS (bits), were they THE RULE" */
    private static void everyText() {
        PaidInKind x = new PaidInKind();
        x.person(LOCAL, 0, 0);
        x.person(ALMSMAN, 0, 0);
        x.film(0, 0);
        x.sheet(1, 0, 8);
        for (int text = 1; text <= 5; text++) {
            due.is("as many as there are", x.tells(1, 1, 4), (1 << text) - 1);
            due.is("TEXT 0 alone", x.tells(0, 0, 4), 1);
            Due.text(x, "takes 1;worth " + (50 + text) + ";times 1;");
        }
        due.is("all six", x.tells(1, 1, 4), 63);
        for (int text = 1; text <= 5; text++) {
            fill(x, 2, 2, 50 + text);
            due.is("TEXT " + text, x.tells(2, 0, 4), 1 << text);
        }
        due.is("THE RULE stays", x.count(5), 0);
        fill(x, 2, 2, 50);
        due.is("none", x.tells(2, 0, 4), 0);
    }

    /** "PEOPLE (bits) to whom they are" */
    private static void everyone() {
        PaidInKind x = withRule("20");
        for (int i = 0; i < 6; i++) {
            x.person(BOY, i, 0);
            fill(x, 3, 0, 20 + i);
            due.is("the last who came", x.tells(3, 0, 5), 1 << i);
            fill(x, 3, 0, 20);
            due.is("the first", x.tells(3, i, 5), 1);
        }
        for (int i = 0; i < 6; i++) x.set(1, i, 0);
        due.is("all six", x.tells(3, 5, 5), 63);
        fill(x, 3, 0, 19);
        due.is("nobody", x.tells(3, 5, 5), 0);
    }

    /** "BAD: SHEET, one, what; -11; BAD: it doesn't tell 8." */
    private static void refusalsInTheirOrder() {
        PaidInKind x = new PaidInKind();
        due.is("nobody, ahead of -11", x.tells(0, 0, 0), -2);
        x.person(LOCAL, 0, 0);
        due.is("missing", x.tells(3, 0, 5), -11);
        due.is("SHEET 4", x.tells(4, 0, 5), -2);
        due.is("what 6 of a missing one", x.tells(3, 0, 6), -2);
        due.is("1 of a missing one", x.tells(3, 1, 5), -2);
        x.sheet(3, 0, 7);
        due.is("7", x.tells(3, 0, 5), -2);
        x.sheet(3, 0, 8);
        due.is("8", x.tells(3, 0, 5), 0);
        x.sheet(3, -1, 8);
        due.is("missing again", x.tells(3, 0, 0), -11);
    }

    /** "A SHEET truly becomes what the ways .. are WORTH to one (shorts)": whatever it was, if anything. */
    private static void filmIsEightShorts() {
        int[][] was = {{-1, 0}, {0, 40}, {1, 0}, {1, 40}, {2, 8}, {2, 7}};
        for (int sheet = 0; sheet < 4; sheet++) {
            for (int[] w : was) {
                PaidInKind x = withRule("place*14");
                x.person(JUDGE, 9, 0);
                x.sheet(sheet, w[0], w[1]);
                due.is("together", x.film(sheet, 0), 2 * 14 * 28 + 8 * 5);
                due.is("as it is", x.tells(sheet, 0, 0), -1);
                due.is("shorts", x.people(sheet, 1, 0, 0), 0);
                due.is("no bytes", x.people(sheet, 0, 0, 0), -13);
                due.is("no ints", x.people(sheet, 2, 0, 0), -13);
                due.is("8", x.copy(sheet, 8, sheet, 8, 0), 0);
                due.is("not 9", x.copy(sheet, 9, sheet, 9, 0), -12);
                x.set(1, 0, 0);
                x.force(0);
                due.is("as it was then, not now", x.tells(sheet, 0, 0), 1);
            }
        }
    }

    /** The most that a way can be WORTH is 203, which no byte could hold, and eight of them. */
    private static void filmOfTheMost() {
        PaidInKind x = withRule("9999");
        for (int kind = 0; kind < 6; kind++) x.person(kind, 9, 0);
        int[] worth = {99, 198, 108, 203, 54, 0};
        for (int kind = 0; kind < 6; kind++) {
            due.is("film of KIND " + kind, x.film(0, kind), 8 * worth[kind]);
            due.is("read back", x.tells(0, kind, 5), 1 << kind);
        }
        due.is("SHEET 4", x.film(4, 0), -2);
        due.is("6 is nobody", x.film(0, 6), -2);
        due.is("the SHEET is as it was", x.tells(0, 5, 0), -1);
    }

    /** "(z >>> 9) % 256, z being z * 1103515245 + 12345 (an int; SEED at first)", by longs. */
    private static int knowsByLot(long z) {
        return (int) ((z & 0xffffffffL) / 512 % 256);
    }

    private static long next(long z) {
        return z * 1103515245L + 12345L;
    }

    private static void drawnOfOne() {
        PaidInKind x = new PaidInKind();
        due.is("nobody", x.drawn(12345), 0);
        x.person(LOCAL, 0, 255);
        int[] seeds = {0, 1, -1, 2, 3, 511, 512, 65535, 65536, BIG, BIG - 1, LOW, LOW + 1, 1103515245, -1103515245, 777};
        int below = 0;
        for (int seed : seeds) {
            due.is("drawn(" + seed + ")", x.drawn(seed), Integer.bitCount(knowsByLot(next(seed))));
            if ((int) next(seed) < 0) below++;
        }
        due.is("z below 0, too", below > 3 ? 1 : 0, 1);
        due.is("KNOWS as ever", x.told(0, 3), 255);
    }

    /** "of each of PEOPLE, in order .. anew for each" */
    private static void drawnOfEach() {
        int[] seeds = {0, 5, -7, BIG, LOW};
        PaidInKind x = new PaidInKind();
        for (int size = 1; size <= 6; size++) {
            x.person(ALMSMAN, 0, 0);
            for (int seed : seeds) {
                long z = seed;
                int ways = 0;
                for (int i = 0; i < size; i++) {
                    z = (int) next(z);
                    ways += Integer.bitCount(knowsByLot(z));
                }
                due.is("drawn(" + seed + ") of " + size + " who want nothing", x.drawn(seed), ways);
            }
        }
    }

    /** A seed by which the first of two KNOWS none and the second all. */
    private static int seedOfNoneAndAll() {
        for (int s = 0; s < 1000000; s++) {
            int z = (int) next(s);
            if (knowsByLot(z) == 0 && knowsByLot((int) next(z)) == 255) return s;
        }
        return -1;
    }

    /** "behind 5 ROUNDS" */
    private static void drawnBehind5Rounds() {
        int seed = seedOfNoneAndAll();
        due.is("there is such a seed", seed >= 0 ? 1 : 0, 1);
        for (int k = 3; k <= 6; k++) {
            PaidInKind x = new PaidInKind();
            x.person(LOCAL, 0, 0);
            x.person(ALMSMAN, 0, 0);
            x.set(4, 0, (1 << k) - 1);
            due.is(k + " ways wanted, one a ROUND", x.drawn(seed), 8 + Math.min(5, k));
            x.set(0, 0, 999);
            due.is("from 999 on", x.drawn(seed), 8 + Math.min(5, k));
        }
    }

    private static PaidInKind alone() {
        PaidInKind x = new PaidInKind();
        x.person(LOCAL, 0, 0);
        return x;
    }

    /** "SEED and each 1 more (an int)": behind the highest comes the lowest. */
    private static void seedsWrap() {
        PaidInKind x = alone();
        for (int back = 0; back < 20; back++) {
            int seed = BIG - back;
            for (int k = 0; k <= 8; k += 4) {
                int above = 0;
                for (int i = 0; i < 20; i++) {
                    long s = (long) seed + i;
                    if (s > BIG) s -= 1L << 32;
                    if (Integer.bitCount(knowsByLot(next(s))) >= k) above++;
                }
                int most = (int) x.chance(seed, 20, k, 1);
                due.is("below the line", most > 0 && 20 % most == 0 ? 1 : 0, 1);
                due.is("above the line", most == 0 ? -1 : x.chance(seed, 20, k, 0) * (20 / most), above);
            }
        }
    }

    /** "those by which that is k (0 .. 48) or more" */
    private static void kOrMore() {
        PaidInKind x = alone();
        for (int seed = 0; seed < 30; seed++) {
            int ways = x.drawn(seed);
            due.is("just so many", x.chance(seed, 1, ways, 0), 1);
            due.is("one more", x.chance(seed, 1, ways + 1, 0), 0);
            due.is("none of 1, below the line", x.chance(seed, 1, ways + 1, 1), 1);
            due.is("0", x.chance(seed, 1, 0, 0), 1);
            due.is("48", x.chance(seed, 1, 48, 0), 0);
        }
        // six who tell for nothing and want all KNOW 48 ways, if each way is known by lot to one of them
        x = new PaidInKind();
        for (int i = 0; i < 6; i++) {
            x.person(ALMSMAN, 0, 0);
            x.set(4, i, 255);
        }
        int full = -1;
        for (int seed = 0; seed < 100 && full < 0; seed++) if (x.drawn(seed) == 48) full = seed;
        due.is("there is such a seed", full >= 0 ? 1 : 0, 1);
        due.is("48 is 48 or more", x.chance(full, 1, 48, 0), 1);
        due.is("49", x.chance(full, 1, 49, 0), PaidInKind.NO);
        due.is("-1", x.chance(full, 1, -1, 0), PaidInKind.NO);
        due.is("nobody KNOWS 0 or more", new PaidInKind().chance(0, 20, 0, 0), 1);
        due.is("nobody doesn't KNOW 1", new PaidInKind().chance(0, 20, 1, 0), 0);
    }

    /** "IN m seeds (1 .. 20)" */
    private static void fromOneToTwentySeeds() {
        PaidInKind x = alone();
        for (int m = 1; m <= 20; m++) {
            // just the last of them is such that 8 ways are known, or the first
            int seed = 0;
            for (int s = 0; s < 20000 && seed == 0; s++) {
                boolean only = Integer.bitCount(knowsByLot(next(s + m - 1))) == 8;
                for (int i = 0; i < m - 1 && only; i++) only = Integer.bitCount(knowsByLot(next(s + i))) < 8;
                if (only && Integer.bitCount(knowsByLot(next(s + m))) < 8) seed = s;
            }
            due.is("there is such a seed", seed > 0 ? 1 : 0, 1);
            due.is("1 above the line of " + m, x.chance(seed, m, 8, 0), 1);
            due.is("m below it", x.chance(seed, m, 8, 1), m);
            if (m > 1) due.is("none of one less", x.chance(seed, m - 1, 8, 0), 0);
            due.is("the first of them", x.chance(seed + m - 1, 1, 8, 0), 1);
        }
        due.is("0", x.chance(0, 0, 0, 0), PaidInKind.NO);
        due.is("21", x.chance(0, 21, 0, 0), PaidInKind.NO);
        due.is("21, part 1", x.chance(0, 21, 0, 1), PaidInKind.NO);
    }

    /** "part 0 above, 1 below the line, in lowest terms" */
    private static void lowestTerms() {
        PaidInKind x = alone();
        due.is("all of 20, above", x.chance(9, 20, 0, 0), 1);
        due.is("all of 20, below", x.chance(9, 20, 0, 1), 1);
        due.is("none of 20, above", x.chance(9, 20, 9, 0), 0);
        due.is("none of 20, below", x.chance(9, 20, 9, 1), 1);
        boolean[] seen = new boolean[21];
        for (int k = 2; k <= 7; k++) {
            x = alone();
            for (int seed = 0; seed < 200; seed++) {
                int above = 0;
                for (int i = 0; i < 20; i++) if (Integer.bitCount(knowsByLot(next(seed + i))) >= k) above++;
                int divisor = java.math.BigInteger.valueOf(above).gcd(java.math.BigInteger.valueOf(20)).intValue();
                due.is(above + " of 20, above", x.chance(seed, 20, k, 0), above / divisor);
                due.is(above + " of 20, below", x.chance(seed, 20, k, 1), 20 / divisor);
                seen[above] = true;
            }
        }
        for (int above : new int[] {1, 2, 4, 5, 10, 15, 16}) due.is(above + " of 20 came", seen[above] ? 1 : 0, 1);
        due.is("part 2", x.chance(0, 20, 0, 2), PaidInKind.NO);
        due.is("part -1", x.chance(0, 20, 0, -1), PaidInKind.NO);
    }

    /** "STATE: there is none" */
    private static void noImage() {
        PaidInKind x = new PaidInKind();
        x.person(LOCAL, 3, 3);
        due.is("none", x.back(), -3);
        due.is("one is there", x.count(0), 1);
        due.is("kept", x.image(), 1);
        due.is("back", x.back(), 1);
        due.is("and again", x.back(), 1);
    }

    /** "AN IMAGE keeps .. ROUND, NUMBERS, where all are AT, what they KNOW, WANT, MINUTES, THE RULE": one at a time, of each of six. */
    private static void imageKeepsEachThing() {
        PaidInKind x = new PaidInKind();
        Due.text(x, "takes 1;worth 5;times 9;");
        for (int i = 0; i < 6; i++) {
            x.person(i == 5 ? ALMSMAN : LOCAL, 4, i == 5 ? 255 : 0);
            x.set(2, i, 2);
            x.set(4, i, 1);
        }
        x.set(0, 0, 77);
        due.is("six", x.image(), 6);
        int[] kept = {77, 4, 2, 0, 1};
        for (int i = 0; i < 5; i++) {
            for (int what = 0; what < 5; what++) {
                due.is("set", x.set(what, i, 6), kept[what]);
                due.is("back", x.back(), 6);
                due.is("as it was", x.told(i, what), kept[what]);
            }
            x.trade(i, 5, 7);
            due.is("MINUTES", x.told(5, 6), 20);
            x.back();
            due.is("no MINUTES", x.told(5, 6), 0);
            due.is("KNOWS none", x.told(i, 3), 0);
        }
        x.force(1);
        x.back();
        due.is("THE RULE", x.count(5), 0);
        due.is("by it", x.told(0, 12), 0);
        x.force(1);
        x.image();
        x.force(0);
        x.back();
        due.is("THE RULE is 1", x.count(5), 1);
        due.is("by 1", x.told(0, 12), 5);
    }

    /** "AN IMAGE keeps ROADS": each of 28, and how far it is then. */
    private static void imageKeepsEveryRoad() {
        PaidInKind x = new PaidInKind();
        x.person(LOCAL, 0, 255);
        int miles = 0;
        for (int i = 0; i < 8; i++) for (int j = i + 1; j < 8; j++) x.road(i, j, ++miles);
        x.image();
        for (int i = 0; i < 8; i++) for (int j = i + 1; j < 8; j++) x.road(i, j, 0);
        due.is("none", x.count(1), 0);
        x.back();
        due.is("28", x.count(1), 28);
        miles = 0;
        for (int i = 0; i < 8; i++) for (int j = i + 1; j < 8; j++) due.is("its miles", x.road(j, i, 50), ++miles);
        x.back();
        due.is("one WALKS by them", x.walk(0, 0, 1), 1);
        due.is("28 miles straight, 13 by way of 0", x.walk(0, 7, 6), 13);
        // what was worked out by other ROADS is not told any more
        x = new PaidInKind();
        x.person(LOCAL, 0, 0);
        x.image();
        x.road(0, 1, 5);
        due.is("5 miles", x.told(0, 11), 5);
        x.back();
        due.is("no way", x.told(0, 11), 99);
        x.road(0, 1, 6);
        x.image();
        due.is("6 miles", x.told(0, 11), 6);
        x.road(0, 1, 7);
        due.is("7 miles", x.told(0, 11), 7);
        x.back();
        due.is("6 miles again", x.told(0, 11), 6);
        due.is("TIME", x.told(0, 21), 7);
    }

    /** "All that it keeps": TEXTS, THE TAPE and SHEETS are not among that. */
    private static void imageLeavesTheRest() {
        PaidInKind x = new PaidInKind();
        x.person(LOCAL, 0, 0);
        x.image();
        Due.text(x, "takes 1;worth 5;times 9;");
        x.sheet(2, 1, 5);
        Due.feed(x, "takes 2;worth 6;times 9");
        x.back();
        due.is("TEXTS", x.count(3), 2);
        due.is("bytes", x.count(4), 23);
        due.is("a SHEET", x.cell(2, 4, 1), 1);
        x.feed(';');
        due.is("THE TAPE", x.text(), 2);
        x.force(2);
        due.is("the TEXT", x.told(0, 10), 6);
        x.sheet(2, -1, 0);
        x.back();
        due.is("no SHEET", x.cell(2, 4, 1), -11);
    }

    /** "(PEOPLE that came since go)" */
    private static void whoCameSinceGoes() {
        for (int size = 0; size <= 6; size++) {
            PaidInKind x = new PaidInKind();
            for (int i = 0; i < size; i++) x.person(5 - i, i, 1 << i);
            due.is("kept", x.image(), size);
            for (int i = size; i < 6; i++) x.person(LOCAL, 9, 255);
            due.is("six", x.count(0), 6);
            due.is("back", x.back(), size);
            due.is("PEOPLE", x.count(0), size);
            due.is("ways", x.all(0), size);
            due.is("the next is nobody", x.told(size, 5), -2);
            for (int i = 0; i < size; i++) due.is("KIND", x.told(i, 5), 5 - i);
            due.is("one comes", x.person(MISER, 8, 3), size < 6 ? size : -4);
        }
    }

    private static void theLastImageCounts() {
        PaidInKind x = new PaidInKind();
        x.image();
        x.person(LOCAL, 1, 1);
        x.set(0, 0, 5);
        due.is("kept anew", x.image(), 1);
        x.set(0, 0, 6);
        x.person(LOCAL, 2, 2);
        due.is("back to the last", x.back(), 1);
        due.is("ROUND", x.told(0, 0), 5);
        x.set(1, 0, 9);
        x.back();
        due.is("THE IMAGE itself isn't changed by what comes behind", x.told(0, 1), 1);
    }

    /** "How many: 0 PEOPLE, 1 ROADS, 2 MINUTES of all, 3 TEXTS, 4 bytes of THE TAPE, 5 THE RULE. BAD." */
    private static void counts() {
        PaidInKind x = new PaidInKind();
        int[] first = {0, 0, 0, 1, 0, 0};
        for (int what = 0; what < 6; what++) due.is("at first " + what, x.count(what), first[what]);
        due.is("-1", x.count(-1), -2);
        due.is("6", x.count(6), -2);
        for (int i = 0; i < 5; i++) Due.text(x, "takes 1;worth 1;times 1;");
        for (int i = 0; i < 6; i++) x.person(ALMSMAN, 0, 1 << i);
        for (int i = 0; i < 8; i++) for (int j = i + 1; j < 8; j++) x.road(i, j, 99);
        for (int i = 0; i < 160; i++) x.feed(0);
        x.force(5);
        for (int i = 0; i < 6; i++) x.set(4, i, 255);
        x.round();
        int[] most = {6, 28, 600, 6, 160, 5};
        for (int what = 0; what < 6; what++) due.is("at most " + what, x.count(what), most[what]);
    }
}
