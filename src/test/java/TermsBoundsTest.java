/**
 * The bounds that "Terms", ==== 1, names for PLACES, ROADS, ROUND, PEOPLE and what KINDS make of them, and those of
 * promises 1 to 5. What lies a step beyond each of them is refused: RefusalsTest has every such call.
 */
public final class TermsBoundsTest {
    private static final Due due = new Due("TermsBoundsTest");
    private static final int LOCAL = 0, MISER = 1, BOY = 2, JUDGE = 3, TINKER = 4, ALMSMAN = 5;

    public static void main(String[] args) {
        nobodyNoRoads();
        eightPlaces();
        milesOfARoad();
        farAtMost();
        noWayIs999();
        farByAnyPlace();
        roundFrom0To999();
        sixPeople();
        sixInEveryCall();
        asOneComes();
        whoWentIsForgotten();
        numbersAndKinds();
        everyWay();
        minutesAtMost();
        quotientsAreCut();
        whatIsNot0IsYes();
        kindsTake();
        judgeModulo8();
        freeAbove6();
        worthAndTimesAtMost99();
        due.end();
    }

    /** "Nobody, no ROADS." */
    private static void nobodyNoRoads() {
        PaidInKind x = new PaidInKind();
        due.is("PEOPLE", x.count(0), 0);
        due.is("ROADS", x.count(1), 0);
        due.is("who comes is 0", x.person(LOCAL, 0, 255), 0);
        due.is("REACH without ROADS", x.told(0, 8), 1);
        for (int t = 1; t < 8; t++) due.is("no way", x.walk(0, 0, t), -1);
    }

    /** "PLACES 0 .. 7" */
    private static void eightPlaces() {
        PaidInKind x = new PaidInKind();
        int roads = 0;
        for (int i = 0; i < 8; i++) {
            for (int j = i + 1; j < 8; j++) {
                due.is("none at first", x.road(i, j, 1 + roads), 0);
                roads++;
                due.is("ROADS", x.count(1), roads);
            }
        }
        due.is("28 ROADS", roads, 28);
        int was = 1;
        for (int i = 0; i < 8; i++) {
            for (int j = i + 1; j < 8; j++) {
                due.is("what it was, from the other end", x.road(j, i, 0), was++);
                due.is("a ROAD less", x.count(1), --roads);
            }
        }
        x.person(LOCAL, 0, 0);
        for (int at = 0; at < 8; at++) {
            x.set(2, 0, at);
            due.is("AT", x.told(0, 2), at);
            due.is("REACH is where one is", x.told(0, 8), 1 << at);
            for (int t = 0; t < 8; t++) due.is("TAKES all but here", x.told(0, 30 + t), t == at ? 0 : 1);
        }
        due.is("AT 8", x.set(2, 0, 8), -2);
        due.is("AT 7 still", x.told(0, 2), 7);
    }

    /** "two PLACES are so many miles apart by a ROAD (1 .. 99), or there is none (0, at first)" */
    private static void milesOfARoad() {
        PaidInKind x = new PaidInKind();
        x.person(LOCAL, 0, 255);
        due.is("99", x.road(0, 7, 99), 0);
        due.is("100", x.road(0, 7, 100), -2);
        due.is("99 still", x.walk(0, 0, 7), 99);
        due.is("1", x.road(7, 0, 1), 99);
        due.is("-1", x.road(7, 0, -1), -2);
        due.is("1 still", x.walk(0, 7, 0), 1);
        due.is("0", x.road(0, 7, 0), 1);
        due.is("none", x.walk(0, 0, 7), -1);
        due.is("one and the same", x.road(7, 7, 1), -2);
        due.is("0 as before", x.road(7, 0, 5), 0);
    }

    /** "far: how many miles it is at least by ROADS": seven ROADS of 99 miles are the most, in whichever order they lie. */
    private static void farAtMost() {
        int[][] chains = {{0, 1, 2, 3, 4, 5, 6, 7}, {7, 6, 5, 4, 3, 2, 1, 0}, {0, 7, 1, 6, 2, 5, 3, 4}, {4, 3, 5, 2, 6, 1, 7, 0}, {3, 0, 6, 1, 7, 2, 5, 4}};
        for (int[] chain : chains) {
            PaidInKind x = new PaidInKind();
            x.person(LOCAL, 0, 255);
            x.set(2, 0, chain[0]);
            for (int i = 0; i < 7; i++) x.road(chain[i], chain[i + 1], 99);
            Due.text(x, "takes far=693;worth far;times far=0;");
            x.force(1);
            for (int i = 0; i < 8; i++) {
                due.is("693", x.told(0, 30 + chain[i]), i == 7 ? 1 : 0);
                due.is("0", x.told(0, 20 + chain[i]), i == 0 ? 1 : 0);
                due.is("worth 99 at most", x.told(0, 10 + chain[i]), i == 0 ? 0 : 99);
                due.is("WALK", x.walk(0, chain[0], chain[i]), 99 * i);
                due.is("WALK back", x.walk(0, chain[i], chain[0]), 99 * i);
            }
            due.is("REACH", x.told(0, 8), 255);
        }
    }

    /** "999: there is no way" */
    private static void noWayIs999() {
        PaidInKind x = new PaidInKind();
        x.person(LOCAL, 0, 0);
        Due.text(x, "takes far=999;worth far=998;times far=1000;");
        x.force(1);
        for (int t = 0; t < 8; t++) {
            due.is("999", x.told(0, 30 + t), t == 0 ? 0 : 1);
            due.is("not 998", x.told(0, 10 + t), 0);
            due.is("not 1000", x.told(0, 20 + t), 0);
        }
        x.road(0, 7, 99);
        due.is("a way", x.told(0, 37), 0);
        x.road(0, 7, 0);
        due.is("no way again", x.told(0, 37), 1);
    }

    /** far goes by every PLACE, known or not, 0 and 7 with them. */
    private static void farByAnyPlace() {
        for (int by = 0; by < 8; by++) {
            PaidInKind x = new PaidInKind();
            x.person(LOCAL, 0, 0);
            int from = (by + 1) % 8;
            int to = (by + 7) % 8;
            x.set(2, 0, from);
            x.road(from, by, 3);
            x.road(by, to, 4);
            due.is("to " + by, x.told(0, 10 + by), 3);
            due.is("by " + by, x.told(0, 10 + to), 7);
            due.is("but one doesn't walk so", x.walk(0, from, to), -1);
        }
    }

    /** "ROUND (0 .. 999; 0 at first)" */
    private static void roundFrom0To999() {
        PaidInKind x = new PaidInKind();
        due.is("0 at first", x.set(0, 0, 999), 0);
        due.is("1000", x.set(0, 0, 1000), -2);
        due.is("-1", x.set(0, 0, -1), -2);
        due.is("999", x.told(0, 0), 999);
        due.is("set to 0", x.set(0, 0, 0), 999);
        due.is("0", x.told(0, 0), 0);
    }

    /** "PEOPLE (6 at most, numbered from 0)" */
    private static void sixPeople() {
        PaidInKind x = new PaidInKind();
        for (int i = 0; i < 6; i++) {
            due.is("not there yet", x.told(i, 5), -2);
            due.is("the number", x.person(5 - i, i, 1 << i), i);
            due.is("PEOPLE", x.count(0), i + 1);
        }
        due.is("a seventh", x.person(0, 0, 0), -4);
        due.is("six", x.count(0), 6);
        due.is("6 is nobody", x.told(6, 5), -2);
        for (int i = 0; i < 6; i++) due.is("KIND", x.told(i, 5), 5 - i);
    }

    /** All that looks at PEOPLE does so with six of them, and for the last of them. */
    private static void sixInEveryCall() {
        PaidInKind x = new PaidInKind();
        for (int i = 0; i < 6; i++) x.person(i == 5 ? ALMSMAN : LOCAL, i, 2 << i);
        x.road(0, 1, 9);
        due.is("ways of all", x.all(0), 6);
        due.is("of anybody", x.all(1), 0b01111110);
        due.is("of all", x.all(2), 0);
        due.is("AT REST", x.all(3), 1);
        due.is("set NUMBER", x.set(1, 5, 9), 5);
        due.is("set AT", x.set(2, 5, 1), 0);
        due.is("set KNOWS", x.set(3, 5, 0b01000001), 0b01000000);
        due.is("set WANTS", x.set(4, 5, 0b00100000), 0);
        due.is("HOARD", x.told(5, 7), 0b01000001);
        due.is("REACH", x.told(5, 8), 0b00000011);
        due.is("WORTH", x.told(5, 10), 0);
        due.is("5 is asked", x.pays(0, 5, 6), 8);
        due.is("5 asks", x.pays(5, 4, 5), 6);
        due.is("run", x.run(1, 15), 0b01100001);
        due.is("soon", x.soon(5, 5), 1);
        due.is("gift", x.gift(5, 0), 1);
        due.is("walk", x.walk(5, 1, 0), 9);
        due.is("taken", x.taken(5, ALMSMAN), 9);
        due.is("round", x.round(), 1);
        due.is("MINUTES of 5: an ALMSMAN's", x.told(5, 6), 20);
        due.is("MINUTES of all: 4 tells where there is no way", x.count(2), 119);
        due.is("film", x.film(0, 5), 0);
        due.is("tells", x.tells(0, 5, 5), 0b100000);
        due.is("drawn", x.drawn(3) > 0 ? 1 : 0, 1);
        due.is("image", x.image(), 6);
        due.is("back", x.back(), 6);
        x = new PaidInKind();
        for (int i = 0; i < 6; i++) x.person(LOCAL, 0, i == 5 ? 0b0110 : i == 4 ? 0b1000 : 0);
        x.set(4, 4, 0b0010);
        x.set(4, 5, 0b1000);
        due.is("who knows nothing is missed as little as can be", x.missed(0), 4);
        x.set(3, 4, 0);
        x.set(3, 3, 0b1000);
        x.set(4, 3, 0b0010);
        x.set(3, 0, 0b10000);
        x.set(4, 0, 0b0100);
        due.is("5 is missed most", x.missed(0), 5);
        due.is("all that the others would know more", x.missed(1), 0);
    }

    /** "AT a PLACE (0 as one comes) .. WANT that to some (bits; 0 as one comes) .. MINUTES (0 .. 99999; 0)" */
    private static void asOneComes() {
        PaidInKind x = new PaidInKind();
        x.person(MISER, 1, 3);
        x.image();
        x.person(ALMSMAN, 9, 255);
        x.set(2, 1, 7);
        x.set(4, 1, 255);
        x.set(4, 0, 255);
        x.round();
        due.is("MINUTES of who goes", x.told(1, 6), 20);
        due.is("one goes", x.back(), 1);
        due.is("another comes", x.person(BOY, 2, 128), 1);
        int[] comes = {0, 2, 0, 128, 0, BOY, 0};
        for (int what = 0; what < comes.length; what++) due.is("as one comes " + what, x.told(1, what), comes[what]);
        due.is("MINUTES of all", x.count(2), 0);
    }

    /** "(PEOPLE that came since go)": nothing counts what they knew or spent. */
    private static void whoWentIsForgotten() {
        PaidInKind x = new PaidInKind();
        x.image();
        x.person(LOCAL, 0, 255);
        x.person(ALMSMAN, 0, 255);
        x.set(3, 0, 0);
        x.set(4, 0, 255);
        x.round();
        x.back();
        due.is("ways of nobody", x.all(0), 0);
        due.is("of anybody", x.all(1), 0);
        due.is("of all of nobody", x.all(2), 255);
        due.is("AT REST", x.all(3), 1);
        due.is("MINUTES", x.count(2), 0);
        due.is("nobody is missed", x.missed(0), -1);
        due.is("who was 0", x.told(0, 3), -2);
        x.person(LOCAL, 0, 1);
        due.is("HOARD", x.told(0, 7), 1);
        due.is("known by all", x.all(2), 1);
        due.is("1 is nobody", x.pays(0, 1, 3), -2);
    }

    /** "a NUMBER (0 .. 9)", "KIND: 0 .. 5" */
    private static void numbersAndKinds() {
        for (int kind = 0; kind < 6; kind++) {
            PaidInKind x = new PaidInKind();
            due.is("NUMBER 9", x.person(kind, 9, 255), 0);
            due.is("NUMBER 10", x.person(kind, 10, 255), -2);
            due.is("NUMBER 0", x.person(kind, 0, 0), 1);
            due.is("NUMBER -1", x.person(kind, -1, 0), -2);
            due.is("9 becomes 0", x.set(1, 0, 0), 9);
            due.is("0 becomes 9", x.set(1, 1, 9), 0);
            due.is("10", x.set(1, 1, 10), -2);
            due.is("-1", x.set(1, 1, -1), -2);
            due.is("KIND stays", x.told(0, 5) * 10 + x.told(1, 5), kind * 11);
            due.is("0", x.told(0, 1), 0);
            due.is("9", x.told(1, 1), 9);
            due.is("two", x.count(0), 2);
        }
    }

    /** "KNOW the way to some PLACES (bits)": each of the eight, none and all. */
    private static void everyWay() {
        PaidInKind x = new PaidInKind();
        x.person(LOCAL, 0, 0);
        x.person(LOCAL, 0, 0);
        for (int t = 0; t < 8; t++) {
            x.set(3, 0, 1 << t);
            x.set(3, 1, 255 - (1 << t));
            due.is("KNOWS " + t, x.told(0, 3), 1 << t);
            due.is("HOARD " + t, x.told(0, 7), 1 << t);
            due.is("HOARD of the other", x.told(1, 7), 255 - (1 << t));
            due.is("together", x.all(0), 8);
            due.is("anybody", x.all(1), 255);
            due.is("all", x.all(2), 0);
            due.is("now", x.soon(0, t), 0);
            x.set(3, 1, 255);
            due.is("HOARD of what all KNOW", x.told(0, 7), 0);
            due.is("all KNOW " + t, x.all(2), 1 << t);
            due.is("9 ways", x.all(0), 9);
        }
        x.set(3, 0, 255);
        due.is("all of both", x.all(0), 16);
        due.is("all KNOW all", x.all(2), 255);
    }

    /**
     * "MINUTES telling (0 .. 99999)", "99999 MINUTES at most": a JUDGE of 9, whom a row of 13 calls, again and again, makes tell
     * 25 ways of 108 minutes and one of 10, so that he comes there within 512 calls.
     */
    private static void minutesAtMost() {
        PaidInKind x = new PaidInKind();
        int[] knows = {255, 69, 255, 78, 207, 176};
        int[] wants = {255, 26, 218, 4, 24, 1};
        for (int i = 0; i < 6; i++) {
            x.person(i == 0 ? JUDGE : LOCAL, i == 0 ? 9 : 0, knows[i]);
            x.set(4, i, wants[i]);
        }
        for (int i = 0; i < 36; i++) {
            elevenCalls(x);
            x.round();
            x.set(3, 5, 176);
        }
        due.is("36 times 2710", x.told(0, 6), 97560);
        elevenCalls(x);
        due.is("less than 7 times 108 below the bound", x.told(0, 6), 99514);
        due.is("485 more, and 595 of the others, in thought", x.run(1, 1), 1080);
        due.is("MINUTES of all", x.count(2), 179653);
        due.is("TRADES", x.round(), 7);
        due.is("at most", x.told(0, 6), 99999);
        due.is("MINUTES of all then", x.count(2), 179653 + 1080);
        x.set(3, 5, 176);
        x.set(3, 2, 3);
        x.set(3, 0, 16);
        due.is("of the others alone, in thought", x.run(1, 1), 595);
        due.is("he tells even so", x.round(), 7);
        due.is("no more than that", x.told(0, 6), 99999);
        due.is("told, all the same", x.told(0, 3) > 16 ? 1 : 0, 1);
    }

    private static void elevenCalls(PaidInKind x) {
        x.set(3, 2, 3);
        x.set(3, 0, 16);
        x.round();
        x.set(3, 0, 34);
        x.round();
        x.set(3, 0, 128);
        x.set(3, 4, 193);
        x.round();
        x.set(3, 0, 4);
        x.set(3, 3, 74);
        x.set(3, 1, 65);
    }

    /** "Quotients are cut toward 0": "half (cut) of a BOY's", "half (cut) of a LOCAL's" */
    private static void quotientsAreCut() {
        PaidInKind x = new PaidInKind();
        x.person(BOY, 9, 0);
        x.person(TINKER, 9, 0);
        for (int miles = 1; miles <= 99; miles++) {
            x.road(0, 1, miles);
            int time = Math.min(99, miles + 1);
            due.is("WORTH to a TINKER", x.told(1, 11), (miles + 9 - (miles + 9) % 2) / 2);
            due.is("TIME of a BOY", x.told(0, 21), (time - time % 2) / 2);
            due.is("TIME of a TINKER", x.told(1, 21), (time - time % 2) / 2 + 1);
        }
    }

    /** "takes telling yes, if it isn't 0" */
    private static void whatIsNot0IsYes() {
        String[] e = {"0", "1", "-1", "9999", "0-9999", "1024*1024*2048", "1024*1024*4096"};
        int[] yes = {0, 1, 1, 1, 1, 1, 0};
        for (int i = 0; i < e.length; i++) {
            PaidInKind x = new PaidInKind();
            x.person(LOCAL, 0, 0);
            Due.text(x, "takes " + e[i] + ";worth 0;times 0;");
            x.force(1);
            due.is("takes " + e[i], x.told(0, 37), yes[i]);
        }
    }

    /** "TAKES": what each KIND takes of all eight ways, by a rule that tells yes, one that tells no, wanted or not. */
    private static void kindsTake() {
        int all = 255, even = 0b01010101;
        // by KIND: told no; told no, wanted; told yes; told yes, wanted. A JUDGE of 7, a TINKER AT 6.
        int[][] takes = {{0, 0, all, all}, {0, 0, 0, all}, {even, even, all, all}, {0x80, 0x80, 0x80, all},
            {even & ~0x40, even & ~0x40, all & ~0x40, all & ~0x40}, {0, 0, 0, 0}};
        for (int kind = 0; kind < 6; kind++) {
            for (int how = 0; how < 4; how++) {
                PaidInKind x = new PaidInKind();
                x.person(kind, 7, 0);
                x.set(2, 0, 6);
                if (how % 2 == 1) x.set(4, 0, all);
                Due.text(x, how < 2 ? "takes 0;worth 0;times 0;" : "takes 1;worth 0;times 0;");
                x.force(1);
                int bits = 0;
                for (int t = 0; t < 8; t++) bits |= x.told(0, 30 + t) << t;
                due.is("KIND " + kind + " TAKES, " + how, bits, takes[kind][how]);
            }
        }
    }

    /** "if t is NUMBER modulo 8" */
    private static void judgeModulo8() {
        PaidInKind x = new PaidInKind();
        x.person(JUDGE, 0, 0);
        for (int number = 0; number <= 9; number++) {
            x.set(1, 0, number);
            for (int t = 0; t < 8; t++) due.is("NUMBER " + number + ", way " + t, x.told(0, 30 + t), t == (number < 8 ? number : number - 8) ? 1 : 0);
        }
    }

    /** "TINKER: if NUMBER is above 6", "ALMSMAN: yes", others no. */
    private static void freeAbove6() {
        for (int kind = 0; kind < 6; kind++) {
            PaidInKind x = new PaidInKind();
            x.person(LOCAL, 0, 0);
            x.person(kind, 0, 0b10);
            for (int number = 0; number <= 9; number++) {
                x.set(1, 1, number);
                boolean free = kind == ALMSMAN || kind == TINKER && number >= 7;
                due.is("KIND " + kind + " of " + number, x.pays(0, 1, 1), free ? 8 : -1);
            }
        }
    }

    /** "worth, times (0 .. 99, else the bound)"; so WORTH is 203, TIME 108 at most, far within 0 .. 999. */
    private static void worthAndTimesAtMost99() {
        String[] e = {"98", "99", "100", "9999", "1", "0", "-1", "0-9999", "1024*1024*2048-1", "1024*1024*2048"};
        int[] v = {98, 99, 99, 99, 1, 0, 0, 0, 99, 0};
        for (int i = 0; i < e.length; i++) {
            PaidInKind x = new PaidInKind();
            for (int kind = 0; kind < 6; kind++) x.person(kind, 9, 0);
            Due.text(x, "takes 0;worth " + e[i] + ";times " + e[i] + ";");
            x.force(1);
            int[] worth = {v[i], 2 * v[i], v[i] + 9, 2 * v[i] + 5, (v[i] + 9) / 2, 0};
            int[] time = {v[i], v[i], v[i] / 2, v[i] + 9, v[i] / 2 + 1, 20};
            for (int kind = 0; kind < 6; kind++) {
                due.is("WORTH of " + e[i] + " to KIND " + kind, x.told(kind, 13), worth[kind]);
                due.is("TIME of " + e[i] + " of KIND " + kind, x.told(kind, 23), time[kind]);
            }
        }
    }
}
