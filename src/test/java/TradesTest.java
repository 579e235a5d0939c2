/** Promises 9 to 13: pays, trade, round, run, all. */
public final class TradesTest {
    private static final Due due = new Due("TradesTest");
    private static final int LOCAL = 0, MISER = 1, JUDGE = 3, TINKER = 4, ALMSMAN = 5;

    public static void main(String[] args) {
        paysTheLeastWorth();
        paysForNothing();
        paysRefused();
        trades();
        toldAsItIsAhead();
        rounds();
        oneWayAnAsking();
        roundsByRound();
        runsRefused();
        alls();
        due.end();
    }

    /** One who KNOWS 1, 2, 3 AT 0, and one who KNOWS 4; 1 and 2 are worth 5, 3 is worth 4. */
    private static PaidInKind twoLocals() {
        PaidInKind x = new PaidInKind();
        x.road(0, 1, 5);
        x.road(0, 2, 5);
        x.road(0, 3, 4);
        x.person(LOCAL, 0, 0b01110);
        x.person(LOCAL, 0, 0b10000);
        return x;
    }

    private static void paysTheLeastWorth() {
        PaidInKind x = twoLocals();
        due.is("the least", x.pays(0, 1, 4), 3);
        x.set(2, 1, 3);
        due.is("3 isn't taken there: of like ones the first", x.pays(0, 1, 4), 1);
        x.set(3, 1, 0b10010);
        due.is("1 is known there", x.pays(0, 1, 4), 2);
        x.set(3, 1, 0b10110);
        due.is("nothing is left", x.pays(0, 1, 4), -1);
        x.set(3, 1, 0b01110);
        due.is("not known there", x.pays(0, 1, 4), -1);
        x.set(3, 1, 0b11000);
        due.is("known here", x.pays(0, 1, 3), -1);
        x.set(2, 0, 1);
        x.set(2, 1, 0);
        due.is("worth is the asker's: 1 is here", x.pays(0, 1, 4), 1);
        x.set(3, 0, 0);
        due.is("knows nothing", x.pays(0, 1, 4), -1);
        due.is("pays changes nothing", x.count(2), 0);
        x = twoLocals();
        x.person(MISER, 0, 0b100000);
        due.is("a MISER wants none", x.pays(0, 2, 5), -1);
        x.set(4, 2, 0b100);
        due.is("a MISER wants 2", x.pays(0, 2, 5), 2);
        x.person(JUDGE, 9, 0b100000);
        due.is("a JUDGE takes NUMBER modulo 8", x.pays(0, 3, 5), 1);
    }

    private static void paysForNothing() {
        PaidInKind x = new PaidInKind();
        x.person(LOCAL, 0, 0);
        x.person(ALMSMAN, 0, 2);
        x.person(TINKER, 6, 2);
        x.person(TINKER, 7, 2);
        due.is("an ALMSMAN", x.pays(0, 1, 1), 8);
        due.is("a TINKER of 6", x.pays(0, 2, 1), -1);
        due.is("a TINKER of 7", x.pays(0, 3, 1), 8);
        due.is("of what is not known", x.pays(0, 1, 2), -1);
        due.is("to who knows it", x.pays(2, 1, 1), -1);
        x.set(3, 0, 4);
        due.is("nothing is told for it even so", x.trade(0, 1, 1), 8);
        due.is("told", x.told(0, 3), 6);
        due.is("was told nothing", x.told(1, 3), 2);
        due.is("spent no time", x.told(0, 6), 0);
        due.is("spent 20", x.told(1, 6), 20);
    }

    private static void paysRefused() {
        PaidInKind x = twoLocals();
        int[][] wrong = {{0, 0, 4}, {2, 0, 4}, {0, 2, 4}, {-1, 0, 4}, {0, -1, 4}, {0, 1, 8}, {0, 1, -1}, {1, 1, 4}};
        for (int[] w : wrong) {
            due.is("pays BAD", x.pays(w[0], w[1], w[2]), -2);
            due.is("trade BAD", x.trade(w[0], w[1], w[2]), -2);
        }
        due.is("trade STATE", x.trade(0, 1, 5), -3);
        due.is("trade STATE, known", x.trade(0, 1, 1), -3);
        due.is("nothing changed", x.all(0), 4);
    }

    private static void trades() {
        PaidInKind x = twoLocals();
        x.set(2, 1, 1);
        x.set(0, 0, 999);
        due.is("trade", x.trade(0, 1, 4), 3);
        due.is("a KNOWS", x.told(0, 3), 0b11110);
        due.is("b KNOWS", x.told(1, 3), 0b11000);
        due.is("a's TIME: 1 and 4 miles", x.told(0, 6), 5);
        due.is("b's TIME: no way", x.told(1, 6), 99);
        due.is("MINUTES of all", x.count(2), 104);
        due.is("ROUND stays", x.told(0, 0), 999);
        due.is("no more", x.trade(0, 1, 4), -3);
        due.is("the other way round", x.trade(1, 0, 2), -3);
        x.set(3, 1, 0b111000);
        due.is("b asks", x.trade(1, 0, 2), 5);
        due.is("b spends for 5", x.told(1, 6), 198);
        due.is("a spends for 2", x.told(0, 6), 11);
    }

    private static void toldAsItIsAhead() {
        PaidInKind x = twoLocals();
        Due.text(x, "takes 1 ; worth 10 - known ; times known * 10 ;");
        x.force(1);
        due.is("trade", x.trade(0, 1, 4), 1);
        due.is("a knew 3", x.told(0, 6), 30);
        due.is("b knew 1", x.told(1, 6), 10);
        due.is("a knows 4", x.told(0, 20), 40);
        due.is("b knows 2", x.told(1, 20), 20);
    }

    private static PaidInKind threeLocals() {
        PaidInKind x = new PaidInKind();
        x.person(LOCAL, 0, 0b0010);
        x.person(LOCAL, 0, 0b0100);
        x.person(LOCAL, 0, 0b1000);
        x.set(4, 0, 0b1100);
        x.set(4, 1, 0b0010);
        x.set(4, 2, 0b0110);
        return x;
    }

    private static void rounds() {
        PaidInKind x = threeLocals();
        due.is("not AT REST", x.all(3), 0);
        due.is("run(1, 0)", x.run(1, 0), 9);
        due.is("run(1, 1)", x.run(1, 1), 594);
        due.is("run(1, 10)", x.run(1, 10), 0b1110);
        due.is("run(1, 11)", x.run(1, 11), 0b1110);
        due.is("run(1, 12)", x.run(1, 12), 0b1110);
        due.is("in thought", x.all(0), 3);
        due.is("run(0, 0)", x.run(0, 0), 3);
        due.is("run(0, 1)", x.run(0, 1), 0);
        due.is("run(0, 12)", x.run(0, 12), 8);
        due.is("round", x.round(), 3);
        due.is("ROUND", x.told(0, 0), 1);
        due.is("truly", x.all(0), 9);
        due.is("MINUTES", x.count(2), 594);
        due.is("AT REST", x.all(3), 1);
        due.is("an idle round", x.round(), 0);
        due.is("ROUND counts it", x.told(0, 0), 2);
        due.is("wants stay", x.told(0, 4), 0b1100);
        x.set(0, 0, 999);
        due.is("STATE", x.round(), -3);
        due.is("ROUND stays", x.told(0, 0), 999);
        x = threeLocals();
        x.set(0, 0, 999);
        due.is("STATE, though there is a TRADE", x.round(), -3);
        due.is("but not in thought", x.run(20, 0), 9);
        due.is("nor AT REST", x.all(3), 0);
    }

    private static void oneWayAnAsking() {
        PaidInKind x = new PaidInKind();
        x.person(LOCAL, 0, 0b110000);
        x.person(LOCAL, 0, 0b001100);
        x.set(4, 0, 0b001100);
        due.is("first", x.run(1, 10), 0b110100);
        due.is("paid with the first", x.run(1, 11), 0b011100);
        due.is("then", x.run(2, 10), 0b111100);
        due.is("together", x.run(2, 0), 8);
        due.is("at rest", x.run(20, 0), 8);
        due.is("one", x.round(), 1);
        due.is("another one", x.round(), 1);
        due.is("none", x.round(), 0);
        // PLACE 0 and who is 0 count like all others
        x = new PaidInKind();
        x.person(LOCAL, 0, 0b0001);
        x.person(LOCAL, 0, 0b0010);
        x.set(2, 0, 7);
        x.set(2, 1, 7);
        x.set(4, 1, 0b0001);
        due.is("1 asks 0 for 0", x.run(1, 0), 4);
        x.set(4, 1, 0);
        x.set(4, 0, 0b0010);
        due.is("0 tells 0 for 1", x.run(1, 0), 4);
        due.is("pays with 0", x.pays(0, 1, 1), 0);
        // who asks first by numbers gets ahead
        x = new PaidInKind();
        x.person(LOCAL, 0, 0b0010);
        x.person(LOCAL, 0, 0b0100);
        x.set(4, 0, 0b0100);
        x.set(4, 1, 0b0010);
        due.is("both are told by one asking", x.round(), 1);
    }

    private static void roundsByRound() {
        PaidInKind x = new PaidInKind();
        x.person(LOCAL, 0, 0b0010);
        x.person(LOCAL, 0, 0b0100);
        x.set(4, 0, 0b0100);
        Due.text(x, "takes round = 2 ; worth 1 ; times round ;");
        x.force(1);
        due.is("AT REST now", x.all(3), 1);
        due.is("run(2, 0)", x.run(2, 0), 2);
        due.is("run(3, 0)", x.run(3, 0), 4);
        due.is("run(3, 1)", x.run(3, 1), 4);
        due.is("round 0", x.round(), 0);
        due.is("round 1", x.round(), 0);
        due.is("AT REST no more", x.all(3), 0);
        due.is("round 2", x.round(), 1);
        due.is("MINUTES", x.count(2), 4);
        Due.text(x, "takes round = 1001 ; worth 1 ; times 1 ;");
        Due.text(x, "takes round = 1 ; worth 1 ; times 1 ;");
        x.set(3, 0, 2);
        x.set(3, 1, 4);
        x.set(0, 0, 0);
        x.force(3);
        due.is("AT REST is of one ROUND", x.all(3), 1);
        x.force(2);
        x.set(3, 0, 2);
        x.set(3, 1, 4);
        x.set(0, 0, 999);
        due.is("ROUND passes 999 in thought", x.run(3, 0), 4);
        due.is("not ahead of that", x.run(2, 0), 2);
    }

    private static void runsRefused() {
        PaidInKind x = threeLocals();
        int[][] wrong = {{-1, 0}, {21, 0}, {0, -1}, {0, 2}, {0, 9}, {0, 13}, {0, 16}, {20, Integer.MAX_VALUE}, {20, Integer.MIN_VALUE}};
        for (int[] w : wrong) due.is("run(" + w[0] + ", " + w[1] + ")", x.run(w[0], w[1]), -2);
        PaidInKind nobody = new PaidInKind();
        due.is("run(0, 10) of nobody", nobody.run(0, 10), -2);
        due.is("run(20, 1) of nobody", nobody.run(20, 1), 0);
    }

    private static void alls() {
        PaidInKind x = new PaidInKind();
        int[] nobody = {0, 0, 255, 1};
        for (int i = 0; i < 4; i++) due.is("nobody: all(" + i + ")", x.all(i), nobody[i]);
        x.person(LOCAL, 0, 0b00110);
        x.person(LOCAL, 0, 0b10100);
        due.is("together", x.all(0), 4);
        due.is("anybody", x.all(1), 0b10110);
        due.is("all", x.all(2), 0b00100);
        due.is("nobody WANTS", x.all(3), 1);
        x.set(4, 0, 255);
        due.is("one WANTS", x.all(3), 0);
        due.is("all(-1)", x.all(-1), -2);
        due.is("all(4)", x.all(4), -2);
    }
}
