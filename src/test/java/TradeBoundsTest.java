/** The bounds of TRADES, ROUNDS and of what would be best: "Terms", ==== 2, and promises 9 to 17. */
public final class TradeBoundsTest {
    private static final Due due = new Due("TradeBoundsTest");
    private static final int LOCAL = 0, BOY = 2, TINKER = 4, ALMSMAN = 5;

    public static void main(String[] args) {
        anyWayForAnyWay();
        oneKnowsTheOtherDoesnt();
        leastWorth();
        ofLikeOnesTheFirst();
        freeIsForNothing();
        spentAsItIsAhead();
        oneAndTheSame();
        firstWanted();
        everyoneAsksEveryone();
        roundUpTo999();
        runs();
        roundPasses999InThought();
        runTellsOfOne();
        alls();
        soonUpTo20();
        giftOfAnyWay();
        giftIfMoreThanSo();
        giftBehind8Rounds();
        missedBehind8Rounds();
        missedOfLikeOnesTheFirst();
        hoards();
        walksToEveryPlace();
        xIsExcepted();
        reachOfEveryPlace();
        due.end();
    }

    /** A new object where all take all, by a TEXT that is THE RULE. */
    private static PaidInKind takingAll() {
        PaidInKind x = new PaidInKind();
        Due.text(x, "takes 1;worth far;times 1;");
        x.force(1);
        return x;
    }

    /** "What a tells b in a TRADE for the way to t": any of the eight for any other, by pays, trade, round and run. */
    private static void anyWayForAnyWay() {
        for (int p = 0; p < 8; p++) {
            for (int t = 0; t < 8; t++) {
                if (p == t) continue;
                PaidInKind x = takingAll();
                x.person(LOCAL, 0, 1 << p);
                x.person(LOCAL, 0, 1 << t);
                for (int other = 0; other < 8; other++) due.is("pays", x.pays(0, 1, other), other == t ? p : -1);
                due.is("nobody WANTS it", x.run(1, 0), 2);
                x.set(4, 0, 1 << t);
                due.is("run", x.run(1, 0), 4);
                due.is("soon", x.soon(0, t), 1);
                due.is("soon, paid", x.soon(1, p), 1);
                due.is("not AT REST", x.all(3), 0);
                x.image();
                due.is("trade", x.trade(0, 1, t), p);
                due.is("both KNOW both", x.all(2), 1 << p | 1 << t);
                due.is("no more", x.trade(0, 1, t), -3);
                due.is("AT REST", x.all(3), 1);
                x.back();
                due.is("round", x.round(), 1);
                due.is("both KNOW both by it", x.all(2), 1 << p | 1 << t);
            }
        }
    }

    /** "b KNOWS it, a doesn't" */
    private static void oneKnowsTheOtherDoesnt() {
        for (int who = 0; who < 4; who++) {
            PaidInKind x = takingAll();
            x.person(LOCAL, 0, 0b01 | (who & 1) << 7);
            x.person(ALMSMAN, 0, 0b10 | (who >> 1) << 7);
            due.is("for nothing, " + who, x.pays(0, 1, 7), who == 2 ? 8 : -1);
            due.is("trade, " + who, x.trade(0, 1, 7), who == 2 ? 8 : -3);
            due.is("of a LOCAL, " + who, x.pays(1, 0, 7), who == 1 ? 1 : -1);
        }
    }

    /** "the one that is WORTH least to a": whichever it is, by a mile. */
    private static void leastWorth() {
        for (int least = 1; least < 7; least++) {
            PaidInKind x = takingAll();
            x.person(LOCAL, 0, 0b01111110);
            x.person(LOCAL, 0, 0b10000000);
            for (int p = 1; p < 7; p++) x.road(0, p, p == least ? 50 : 51);
            due.is("the least", x.pays(0, 1, 7), least);
            x.set(3, 1, 0b10000000 | 1 << least);
            due.is("which b doesn't KNOW", x.pays(0, 1, 7), least == 1 ? 2 : 1);
        }
        // WORTH to a, not to b: AT 1 it is the way to 1, though b is AT 2
        PaidInKind x = takingAll();
        x.person(LOCAL, 0, 0b0110);
        x.person(LOCAL, 0, 0b1000);
        x.set(2, 0, 2);
        x.set(2, 1, 1);
        due.is("to a", x.pays(0, 1, 3), 2);
    }

    /** "of like ones the first" */
    private static void ofLikeOnesTheFirst() {
        for (int first = 0; first < 7; first++) {
            PaidInKind x = new PaidInKind();
            Due.text(x, "takes 1;worth 5;times 1;");
            x.force(1);
            x.person(LOCAL, 0, 0b01111111 & -1 << first);
            x.person(LOCAL, 0, 0b10000000);
            due.is("the first", x.pays(0, 1, 7), first);
        }
    }

    /** "If b tells FREE, a is told it": a has something that b would take, and still tells nothing (8). */
    private static void freeIsForNothing() {
        for (int number = 6; number <= 7; number++) {
            PaidInKind x = takingAll();
            x.person(LOCAL, 0, 0b01);
            x.person(TINKER, number, 0b10);
            x.set(2, 1, 5);
            due.is("a TINKER of " + number, x.trade(0, 1, 1), number == 6 ? 0 : 8);
            due.is("a KNOWS", x.told(0, 3), 0b11);
            due.is("b KNOWS", x.told(1, 3), number == 6 ? 0b11 : 0b10);
            due.is("a spent", x.told(0, 6), number == 6 ? 1 : 0);
            due.is("b spent", x.told(1, 6), 1);
        }
    }

    /** "all told as it is ahead": TIME by how many ways each KNOWS ahead of the TRADE. */
    private static void spentAsItIsAhead() {
        PaidInKind x = new PaidInKind();
        Due.text(x, "takes known<4;worth 5;times known*10+place;");
        x.force(1);
        x.person(LOCAL, 0, 0b00000111);
        x.person(LOCAL, 0, 0b11100000);
        due.is("trade", x.trade(0, 1, 7), 0);
        due.is("a KNEW 3 and told 0", x.told(0, 6), 30);
        due.is("b KNEW 3 and told 7", x.told(1, 6), 37);
        due.is("b KNOWS 4 now and takes none", x.trade(0, 1, 6), -3);
        x.set(4, 0, 255);
        due.is("AT REST by it", x.all(3), 1);
    }

    /** "BAD: no such PEOPLE, one and the same, no such PLACE." */
    private static void oneAndTheSame() {
        PaidInKind x = new PaidInKind();
        for (int i = 0; i < 6; i++) x.person(ALMSMAN, 0, 1 << i);
        for (int a = -1; a <= 6; a++) {
            for (int b = -1; b <= 6; b++) {
                boolean two = a >= 0 && a < 6 && b >= 0 && b < 6 && a != b;
                due.is("pays(" + a + ", " + b + ")", x.pays(a, b, Math.max(0, b)), two ? 8 : -2);
            }
        }
        due.is("-1", x.trade(0, 1, -1), -2);
        due.is("8", x.trade(0, 1, 8), -2);
        due.is("0", x.trade(1, 0, 0), 8);
    }

    /** "the first t (0 ..) that a WANTS and of which there can be a TRADE, is traded": one of each asking. */
    private static void firstWanted() {
        for (int first = 0; first < 8; first++) {
            PaidInKind x = new PaidInKind();
            x.person(LOCAL, 0, 0);
            x.person(ALMSMAN, 0, 255);
            x.set(4, 0, 255 & -1 << first);
            due.is("one TRADE", x.round(), 1);
            due.is("the first", x.told(0, 3), 1 << first);
        }
        for (int missing = 0; missing < 8; missing++) {
            PaidInKind x = new PaidInKind();
            x.person(LOCAL, 0, 255 & ~(1 << missing));
            x.person(ALMSMAN, 0, 255);
            x.set(4, 0, 255);
            due.is("the one that can be traded", x.run(1, 10), 255);
            x.set(3, 1, 255 & ~(1 << missing));
            due.is("none can", x.all(3), 1);
            x.set(3, 1, 255);
            x.set(4, 0, 255 & ~(1 << missing));
            due.is("nor is it wanted", x.round(), 0);
        }
    }

    /** "each a by numbers, with each other b by numbers": six who tell for nothing, each of the five others. */
    private static void everyoneAsksEveryone() {
        PaidInKind x = new PaidInKind();
        for (int i = 0; i < 6; i++) x.person(ALMSMAN, 0, 1 << i);
        for (int i = 0; i < 6; i++) x.set(4, i, 255);
        due.is("30 TRADES", x.round(), 30);
        due.is("all KNOW all", x.all(2), 0b111111);
        due.is("20 minutes each time", x.count(2), 600);
        due.is("then none", x.round(), 0);
        // 0 asks 1 ahead of 1 asking 2: what 1 is told later, 0 can't be told in this ROUND, but 2 asks 1 behind that
        x = new PaidInKind();
        for (int i = 0; i < 4; i++) x.person(ALMSMAN, 0, i == 3 ? 0b1000 : 0);
        x.set(4, 0, 0b1000);
        x.set(4, 1, 0b1000);
        due.is("both ask 3", x.round(), 2);
        x = new PaidInKind();
        x.person(ALMSMAN, 0, 0b01);
        x.person(LOCAL, 0, 0);
        x.person(LOCAL, 0, 0b10);
        x.set(4, 1, 0b01);
        x.set(4, 2, 0b01);
        x.set(3, 1, 0b100);
        due.is("2 asks 0 first, who tells for nothing", x.round(), 2);
        due.is("2 paid nothing", x.told(2, 6), 0);
    }

    /** "Then ROUND is 1 more", "STATE: ROUND is 999" */
    private static void roundUpTo999() {
        PaidInKind x = new PaidInKind();
        x.person(LOCAL, 0, 0);
        x.person(ALMSMAN, 0, 255);
        x.set(4, 0, 255);
        due.is("ROUND 0", x.round(), 1);
        due.is("1", x.told(0, 0), 1);
        x.set(0, 0, 998);
        due.is("ROUND 998", x.round(), 1);
        due.is("999", x.told(0, 0), 999);
        due.is("told in both", x.told(0, 3), 0b11);
        due.is("ROUND 999", x.round(), -3);
        due.is("999 still", x.told(0, 0), 999);
        due.is("told nothing", x.told(0, 3), 0b11);
        due.is("spent nothing", x.told(1, 6), 40);
        due.is("a TRADE can be", x.trade(0, 1, 7), 8);
        PaidInKind nobody = new PaidInKind();
        nobody.set(0, 0, 998);
        due.is("nobody's", nobody.round(), 0);
        due.is("nobody's in 999", nobody.round(), -3);
    }

    /** Whoever takes a way in ROUND k alone; so n ROUNDS bring it if n is above k. */
    private static PaidInKind takingInRound(String when) {
        PaidInKind x = new PaidInKind();
        Due.text(x, "takes round=" + when + ";worth 1;times 7;");
        x.force(1);
        x.person(LOCAL, 0, 0b0010);
        x.person(LOCAL, 0, 0b0100);
        x.set(4, 0, 0b0100);
        return x;
    }

    /** "n ROUNDS (0 .. 20)" */
    private static void runs() {
        for (int k = 0; k <= 20; k++) {
            PaidInKind x = takingInRound(String.valueOf(k));
            for (int n = 0; n <= 20; n++) {
                due.is("ways behind " + n, x.run(n, 0), n > k ? 4 : 2);
                due.is("MINUTES behind " + n, x.run(n, 1), n > k ? 14 : 0);
                due.is("what 0 KNOWS behind " + n, x.run(n, 10), n > k ? 0b0110 : 0b0010);
                due.is("what 1 KNOWS behind " + n, x.run(n, 11), n > k ? 0b0110 : 0b0100);
            }
            due.is("21", x.run(21, 0), -2);
            due.is("-1", x.run(-1, 0), -2);
            due.is("AT REST", x.all(3), k == 0 ? 0 : 1);
            due.is("SOON", x.soon(0, 2), k < 20 ? k + 1 : -1);
        }
    }

    /** "in thought (there ROUND may pass 999)": 20 ROUNDS from 999 on are those from 999 to 1018. */
    private static void roundPasses999InThought() {
        int[] from = {979, 980, 999};
        int[] to = {998, 999, 1018};
        for (int i = 0; i < from.length; i++) {
            PaidInKind x = takingInRound(String.valueOf(to[i]));
            x.set(0, 0, from[i]);
            due.is("19 ROUNDS", x.run(19, 0), 2);
            due.is("20 ROUNDS", x.run(20, 0), 4);
            due.is("SOON", x.soon(1, 1), 20);
            due.is("ROUND stays", x.told(0, 0), from[i]);
            x = takingInRound(String.valueOf(to[i] + 1));
            x.set(0, 0, from[i]);
            due.is("a ROUND too late", x.run(20, 0), 2);
            due.is("SOON, too late", x.soon(1, 1), -1);
            x = takingInRound(String.valueOf(from[i]));
            x.set(0, 0, from[i]);
            due.is("the first of them", x.run(1, 0), 4);
        }
        PaidInKind x = takingInRound("1000");
        x.set(0, 0, 999);
        due.is("AT REST looks at 999", x.all(3), 1);
        x = takingInRound("999");
        x.set(0, 0, 999);
        due.is("AT REST is no more than thought", x.all(3), 0);
        due.is("drawn in 999", x.drawn(1) >= 0 ? 1 : 0, 1);
        due.is("gift in 999", x.gift(0, 1), 5);
        due.is("missed in 999", x.missed(1), 0);
    }

    /** "what one KNOWS, who is what less 10 (10 ..; bits)" */
    private static void runTellsOfOne() {
        PaidInKind x = new PaidInKind();
        for (int size = 0; size <= 6; size++) {
            for (int what = 2; what <= 17; what++) {
                boolean one = what >= 10 && what < 10 + size;
                due.is("run(0, " + what + ") of " + size, x.run(0, what), one ? 1 << what - 10 : -2);
            }
            due.is("run(20, 0)", x.run(20, 0), size);
            due.is("run(20, 1)", x.run(20, 1), 0);
            x.person(LOCAL, 0, 1 << size);
        }
    }

    /** "that all KNOW (2; bits; nobody: 255), AT REST (3; 1, 0)" */
    private static void alls() {
        PaidInKind x = new PaidInKind();
        due.is("nobody: ways", x.all(0), 0);
        due.is("nobody: anybody", x.all(1), 0);
        due.is("nobody: all", x.all(2), 255);
        due.is("nobody: AT REST", x.all(3), 1);
        x.person(LOCAL, 0, 0);
        due.is("one who KNOWS none: all", x.all(2), 0);
        x.set(3, 0, 255);
        x.set(4, 0, 255);
        due.is("one who KNOWS all: all", x.all(2), 255);
        due.is("one alone is AT REST", x.all(3), 1);
        for (int i = 1; i < 6; i++) x.person(LOCAL, 0, 255);
        due.is("48 at most", x.all(0), 48);
        due.is("anybody", x.all(1), 255);
        due.is("all", x.all(2), 255);
        x.set(3, 5, 127);
        due.is("the last doesn't KNOW 7", x.all(2), 127);
        due.is("4", x.all(4), -2);
        due.is("-1", x.all(-1), -2);
    }

    /** "SOON: behind how many ROUNDS one KNOWS it (0: now; 20 at most); NONE" */
    private static void soonUpTo20() {
        PaidInKind x = takingInRound("19");
        due.is("now", x.soon(0, 1), 0);
        due.is("20", x.soon(0, 2), 20);
        due.is("who is told in pay", x.soon(1, 1), 20);
        due.is("nobody tells it", x.soon(0, 7), -1);
        x.set(0, 0, 1);
        due.is("19", x.soon(0, 2), 19);
        x.set(0, 0, 19);
        due.is("1", x.soon(0, 2), 1);
        x.set(0, 0, 20);
        due.is("past", x.soon(0, 2), -1);
        x = takingInRound("20");
        due.is("21", x.soon(0, 2), -1);
        x.set(0, 0, 1);
        due.is("20 from 1", x.soon(0, 2), 20);
        // each of eight ways comes in its own ROUND
        x = new PaidInKind();
        x.person(LOCAL, 0, 0);
        x.person(ALMSMAN, 0, 255);
        x.set(4, 0, 255);
        for (int t = 0; t < 8; t++) due.is("SOON " + t, x.soon(0, t), t + 1);
        x.set(3, 1, 127);
        due.is("nobody KNOWS it", x.soon(0, 7), -1);
        x.set(4, 0, 0);
        due.is("one doesn't WANT it", x.soon(0, 0), -1);
    }

    /** "GIFT: the way such that ..": each of the eight can be it. */
    private static void giftOfAnyWay() {
        for (int t = 0; t < 8; t++) {
            PaidInKind x = new PaidInKind();
            x.person(LOCAL, 0, 255 & ~(1 << t));
            due.is("the only one that lacks", x.gift(0, 0), t);
            due.is("8 ways", x.gift(0, 1), 8);
            x.set(3, 0, (1 << t) - 1);
            due.is("of like ones the first", x.gift(0, 0), t);
            due.is("one way more", x.gift(0, 1), t + 1);
        }
        // one that pays for another is better than those ahead of it: only the way to 7 is taken, by who KNOWS that to 6
        PaidInKind x = new PaidInKind();
        Due.text(x, "takes place=7;worth 1;times 1;");
        x.force(1);
        x.person(LOCAL, 0, 0);
        x.person(LOCAL, 0, 0b01000000);
        x.set(4, 0, 0b01000000);
        due.is("the best is the last", x.gift(0, 0), 7);
        due.is("2 ways more, and 7 for the other", x.gift(0, 1), 4);
    }

    /** "if more than so .. NONE", "(1; as so, if none)" */
    private static void giftIfMoreThanSo() {
        PaidInKind x = new PaidInKind();
        x.person(LOCAL, 0, 255);
        due.is("who KNOWS all", x.gift(0, 0), -1);
        due.is("as so", x.gift(0, 1), 8);
        // eight ROUNDS tell one all eight ways anyway
        x = new PaidInKind();
        x.person(LOCAL, 0, 0);
        x.person(ALMSMAN, 0, 255);
        x.set(4, 0, 255);
        due.is("all is told behind 8 ROUNDS", x.gift(0, 0), -1);
        due.is("as so: both KNOW all", x.gift(0, 1), 16);
        // who is given a way takes none any more by this rule, so that all would KNOW less
        x = new PaidInKind();
        Due.text(x, "takes known<2;worth 1;times 1;");
        x.force(1);
        x.person(LOCAL, 0, 0b0001);
        x.person(LOCAL, 0, 0b0010);
        x.set(4, 0, 0b0010);
        due.is("so", x.run(8, 0), 4);
        due.is("less than so", x.gift(1, 0), -1);
        due.is("as so, though less", x.gift(1, 1), 4);
        // a GIFT that makes up for what isn't told then is as much as so, and not more
        x.person(ALMSMAN, 0, 0b0100);
        x.set(3, 0, 0);
        due.is("so, with nothing to pay", x.run(8, 0), 2);
        due.is("GIFT to who can't pay", x.gift(0, 0), 0);
        due.is("which pays", x.gift(0, 1), 5);
        x.set(4, 1, 0b0100);
        due.is("so, with an ALMSMAN", x.run(8, 0), 3);
        due.is("what one is told anyway is no more, another is", x.gift(1, 0), 0);
        due.is("one more", x.gift(1, 1), 4);
    }

    /** "behind 8 ROUNDS" of GIFT */
    private static void giftBehind8Rounds() {
        for (int k = 6; k <= 9; k++) {
            PaidInKind x = takingInRound(String.valueOf(k));
            due.is("so", x.run(8, 0), k < 8 ? 4 : 2);
            due.is("GIFT", x.gift(0, 1), k < 8 ? 5 : 3);
            x.set(3, 0, 0);
            // only a way that the other takes brings the one that is wanted
            due.is("GIFT to who KNOWS none", x.gift(0, 0), 0);
            due.is("with what it brings", x.gift(0, 1), k < 8 ? 4 : 2);
        }
    }

    /** "behind 8 ROUNDS" of MISSED */
    private static void missedBehind8Rounds() {
        for (int k = 6; k <= 9; k++) {
            PaidInKind x = takingInRound(String.valueOf(k));
            x.person(LOCAL, 0, 0b1000);
            x.set(4, 2, 0b0110);
            // without 2: both others are told one; without 0 or 1: 2 trades with the one that is left
            due.is("how many more", x.missed(1), k < 8 ? 2 : 0);
            due.is("the first", x.missed(0), 0);
            x.set(4, 2, 0b0100);
            due.is("1 is missed most then", x.missed(0), k < 8 ? 1 : 0);
            due.is("none more", x.missed(1), 0);
        }
    }

    /** "of like ones the first; NONE: nobody" */
    private static void missedOfLikeOnesTheFirst() {
        PaidInKind x = new PaidInKind();
        due.is("nobody", x.missed(0), -1);
        due.is("nobody: how many more", x.missed(1), -1);
        for (int i = 0; i < 6; i++) {
            x.person(LOCAL, 0, 1 << i);
            due.is("of like ones the first", x.missed(0), 0);
            due.is("none more", x.missed(1), 0);
        }
        // each in turn is the only one who tells, so that nobody is told anything without that one
        for (int who = 0; who < 6; who++) {
            x = new PaidInKind();
            for (int i = 0; i < 6; i++) x.person(i == who ? ALMSMAN : BOY, 0, i == who ? 0b110 : 0);
            for (int i = 0; i < 6; i++) x.set(4, i, 0b110);
            due.is("who tells is missed", x.missed(0), who);
            due.is("none more without that one", x.missed(1), 0);
            due.is("all that would be told", x.run(8, 0), 12);
        }
        due.is("2", x.missed(2), -2);
        due.is("-1", x.missed(-1), -2);
    }

    /** "HOARD (one): ways (bits) that nobody else KNOWS" */
    private static void hoards() {
        PaidInKind x = new PaidInKind();
        x.person(LOCAL, 0, 255);
        due.is("of the only one", x.told(0, 7), 255);
        for (int i = 1; i < 6; i++) x.person(LOCAL, 0, 3 << i);
        due.is("0 and 7", x.told(0, 7), 0b10000001);
        due.is("none", x.told(5, 7), 0);
        x.set(3, 0, 0);
        due.is("of who KNOWS none", x.told(0, 7), 0);
        due.is("the first end", x.told(1, 7), 0b00000010);
        due.is("the last end", x.told(5, 7), 0b01000000);
    }

    /** "WALK: how many miles it is at least by ROADS" */
    private static void walksToEveryPlace() {
        PaidInKind x = new PaidInKind();
        x.person(LOCAL, 0, 255);
        for (int i = 0; i < 7; i++) x.road(i, i + 1, 10 + i);
        for (int from = 0; from < 8; from++) {
            for (int to = 0; to < 8; to++) {
                int miles = 0;
                for (int i = Math.min(from, to); i < Math.max(from, to); i++) miles += 10 + i;
                due.is("from " + from + " to " + to, x.walk(0, from, to), miles);
            }
        }
        x.road(0, 7, 91);
        due.is("91 straight and 91 around", x.walk(0, 0, 7), 91);
        x.road(0, 7, 90);
        due.is("90 straight", x.walk(0, 0, 7), 90);
        x.road(0, 7, 92);
        due.is("91 around", x.walk(0, 7, 0), 91);
        due.is("-1", x.walk(0, -1, 0), -2);
        due.is("8", x.walk(0, 0, 8), -2);
    }

    /** "going to no PLACE to which one doesn't KNOW the way (x excepted); NONE" */
    private static void xIsExcepted() {
        for (int unknown = 0; unknown < 8; unknown++) {
            PaidInKind x = new PaidInKind();
            x.person(LOCAL, 0, 255 & ~(1 << unknown));
            for (int i = 0; i < 7; i++) x.road(i, i + 1, 1);
            for (int from = 0; from < 8; from++) {
                for (int to = 0; to < 8; to++) {
                    boolean ends = from == to || from == unknown;
                    boolean passes = Math.min(from, to) <= unknown && unknown <= Math.max(from, to);
                    due.is(from + " to " + to + " without " + unknown, x.walk(0, from, to), ends || !passes ? Math.abs(from - to) : -1);
                }
            }
        }
        PaidInKind x = new PaidInKind();
        x.person(LOCAL, 0, 0);
        for (int i = 0; i < 8; i++) due.is("one stays anywhere", x.walk(0, i, i), 0);
    }

    /** "REACH: PLACES (bits) to which one can so WALK from where one is AT (that one, too)" */
    private static void reachOfEveryPlace() {
        PaidInKind x = new PaidInKind();
        x.person(LOCAL, 0, 0);
        for (int i = 0; i < 7; i++) x.road(i, i + 1, 1);
        for (int at = 0; at < 8; at++) {
            x.set(2, 0, at);
            x.set(3, 0, 0);
            due.is("that one, though not KNOWN", x.told(0, 8), 1 << at);
            x.set(3, 0, 255);
            due.is("all", x.told(0, 8), 255);
            x.set(3, 0, 255 & ~(1 << at));
            due.is("all but that one KNOWN", x.told(0, 8), 255);
            if (at < 7) x.set(3, 0, 0b10000000);
            if (at < 7) due.is("7 is too far", x.told(0, 8), 1 << at | (at == 6 ? 128 : 0));
        }
    }
}
