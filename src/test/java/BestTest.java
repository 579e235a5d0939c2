/** Promises 14 to 17: soon, gift, missed, walk. */
public final class BestTest {
    private static final Due due = new Due("BestTest");
    private static final int LOCAL = 0, ALMSMAN = 5;

    public static void main(String[] args) {
        soons();
        soonAtMost();
        gifts();
        giftThatHarms();
        missing();
        eightRounds();
        walks();
        due.end();
    }

    private static void soons() {
        PaidInKind x = new PaidInKind();
        x.person(LOCAL, 0, 0b110000);
        x.person(LOCAL, 0, 0b001100);
        x.set(4, 0, 0b1001100);
        due.is("now", x.soon(0, 4), 0);
        due.is("1", x.soon(0, 2), 1);
        due.is("2", x.soon(0, 3), 2);
        due.is("told in pay", x.soon(1, 5), 2);
        due.is("nobody knows it", x.soon(0, 6), -1);
        due.is("no such", x.soon(2, 0), -2);
        due.is("none", x.soon(-1, 0), -2);
        due.is("no such PLACE", x.soon(0, 8), -2);
        due.is("PLACE -1", x.soon(0, -1), -2);
        due.is("in thought", x.all(0), 4);
        due.is("ROUND stays", x.told(0, 0), 0);
    }

    private static void soonAtMost() {
        PaidInKind x = new PaidInKind();
        x.person(LOCAL, 0, 0b0010);
        x.person(LOCAL, 0, 0b0100);
        x.set(4, 0, 0b0100);
        Due.text(x, "takes round = 19 or round = 1018 ; worth 1 ; times 1 ;");
        Due.text(x, "takes round = 20 or round = 1019 ; worth 1 ; times 1 ;");
        x.force(1);
        due.is("20", x.soon(0, 2), 20);
        x.set(0, 0, 5);
        due.is("15", x.soon(0, 2), 15);
        x.set(0, 0, 999);
        due.is("20 from 999", x.soon(0, 2), 20);
        x.force(2);
        due.is("too late from 999", x.soon(0, 2), -1);
        x.set(0, 0, 0);
        due.is("too late", x.soon(0, 2), -1);
    }

    private static void gifts() {
        PaidInKind x = new PaidInKind();
        x.person(LOCAL, 0, 0);
        x.person(LOCAL, 0, 0b110);
        x.set(4, 0, 0b110);
        // 0 isn't taken here, 1 and 2 are known there: 3 is the first that buys a way
        due.is("GIFT", x.gift(0, 0), 3);
        due.is("ways then", x.gift(0, 1), 5);
        due.is("GIFT of like ones the first", x.gift(1, 0), 0);
        due.is("ways then, 1 more", x.gift(1, 1), 3);
        due.is("in thought", x.all(0), 2);
        x.set(3, 0, 255);
        due.is("who knows all", x.gift(0, 0), -1);
        due.is("as so", x.gift(0, 1), 10);
        due.is("no such", x.gift(2, 0), -2);
        due.is("none", x.gift(-1, 1), -2);
        due.is("what -1", x.gift(0, -1), -2);
        due.is("what 2", x.gift(0, 2), -2);
    }

    /** Who KNOWS something is told nothing more, by this rule: any GIFT is as good as what comes anyway. */
    private static void giftThatHarms() {
        PaidInKind x = new PaidInKind();
        Due.text(x, "takes known < 4 ; worth 1 ; times 1 ;");
        x.force(1);
        x.person(LOCAL, 0, 0b00001110);
        x.person(LOCAL, 0, 0b01110000);
        x.set(4, 0, 0b11110000);
        // so: asking gets one way for one, and the teller then knows 4 and takes none
        due.is("so", x.run(8, 0), 8);
        due.is("GIFT to the teller makes it take none", x.gift(1, 0), -1);
        due.is("as so", x.gift(1, 1), 8);
        due.is("GIFT to the asker", x.gift(0, 0), 0);
        due.is("one more", x.gift(0, 1), 9);
    }

    private static void missing() {
        PaidInKind x = new PaidInKind();
        due.is("nobody", x.missed(0), -1);
        due.is("nobody: how many", x.missed(1), -1);
        due.is("nobody: what 2", x.missed(2), -2);
        due.is("nobody: what -1", x.missed(-1), -2);
        x.person(LOCAL, 0, 0);
        x.person(ALMSMAN, 0, 0b1100);
        x.person(LOCAL, 0, 0b0010);
        x.set(4, 0, 0b0010);
        x.set(4, 2, 0b1100);
        // without 0: 2 is told 2 ways; without 1 or 2: nobody is told any
        due.is("MISSED, of like ones the first", x.missed(0), 1);
        due.is("how many more", x.missed(1), 0);
        x.set(4, 0, 0b1110);
        // without 2: 0 is told 2 ways by 1; without 0: 2 is told 2; without 1: 0 has nothing to tell
        due.is("MISSED still", x.missed(0), 1);
        x.set(3, 1, 0b1000);
        x.set(3, 0, 0b10000);
        // without 0: 1 more; without 1: 0 and 2 tell each other, 2 more; without 2: 1 more
        due.is("MISSED now", x.missed(0), 0);
        due.is("1 more", x.missed(1), 1);
        due.is("in thought", x.all(0), 3);
        x = new PaidInKind();
        x.person(LOCAL, 0, 255);
        due.is("the only one", x.missed(0), 0);
        due.is("none more", x.missed(1), 0);
    }

    private static void eightRounds() {
        for (int round = 7; round <= 8; round++) {
            PaidInKind x = new PaidInKind();
            for (int i = 0; i < 3; i++) x.person(LOCAL, 0, 2 << i);
            x.set(4, 0, 0b1100);
            x.set(4, 1, 0b0010);
            x.set(4, 2, 0b0110);
            Due.text(x, "takes round = " + round + " ; worth 1 ; times 1 ;");
            x.force(1);
            due.is("behind 8 ROUNDS", x.run(8, 0), round == 7 ? 9 : 3);
            due.is("GIFT by then", x.gift(0, 1), round == 7 ? 10 : 4);
            due.is("MISSED by then", x.missed(1), round == 7 ? 2 : 0);
        }
    }

    private static void walks() {
        PaidInKind x = new PaidInKind();
        x.person(LOCAL, 0, 0b10011110);
        x.road(0, 1, 10);
        x.road(1, 2, 10);
        x.road(2, 3, 10);
        x.road(3, 4, 10);
        x.road(0, 5, 1);
        x.road(5, 4, 1);
        x.road(0, 4, 99);
        due.is("5 isn't known", x.walk(0, 0, 4), 40);
        due.is("to 5", x.walk(0, 0, 5), -1);
        due.is("from 5, which is excepted", x.walk(0, 5, 4), 1);
        due.is("to 0, which isn't known", x.walk(0, 4, 0), -1);
        due.is("stays", x.walk(0, 6, 6), 0);
        due.is("no ROAD", x.walk(0, 0, 7), -1);
        x.set(3, 0, 255);
        due.is("5 is known", x.walk(0, 0, 4), 2);
        x.road(0, 5, 0);
        x.road(3, 4, 99);
        due.is("straight is as far as anything", x.walk(0, 0, 4), 99);
        x.set(2, 0, 3);
        due.is("where one is AT does not matter", x.walk(0, 0, 2), 20);
        for (int i = 0; i < 7; i++) {
            for (int j = i + 1; j < 8; j++) x.road(i, j, j == i + 1 ? 99 : 0);
        }
        due.is("the longest", x.walk(0, 0, 7), 693);
        due.is("and back", x.walk(0, 7, 0), 693);
        int[][] wrong = {{1, 0, 0}, {-1, 0, 0}, {0, 8, 0}, {0, -1, 0}, {0, 0, 8}, {0, 0, -1}};
        for (int[] w : wrong) due.is("walk BAD", x.walk(w[0], w[1], w[2]), -2);
    }
}
