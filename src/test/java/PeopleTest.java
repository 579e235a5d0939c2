/** Promises 1 to 5: a new object, set, road, person, told. */
public final class PeopleTest {
    private static final Due due = new Due("PeopleTest");
    private static final int LOCAL = 0, MISER = 1, BOY = 2, JUDGE = 3, TINKER = 4, ALMSMAN = 5;

    public static void main(String[] args) {
        newObject();
        sets();
        roads();
        persons();
        toldOfKinds();
        toldBounds();
        hoardAndReach();
        due.end();
    }

    private static void newObject() {
        PaidInKind x = new PaidInKind();
        int[] counts = {0, 0, 0, 1, 0, 0};
        for (int i = 0; i < counts.length; i++) due.is("new: count(" + i + ")", x.count(i), counts[i]);
        due.is("new: ROUND", x.told(0, 0), 0);
        due.is("new: nobody", x.told(0, 1), -2);
        due.is("new: no SHEET", x.cell(0, 0, 0), -11);
        due.is("new: no IMAGE", x.back(), -3);
        for (int i = 0; i < 8; i++) {
            for (int j = i + 1; j < 8; j++) due.is("new: no ROAD", x.road(i, j, 0), 0);
        }
    }

    private static void sets() {
        PaidInKind x = new PaidInKind();
        due.is("ROUND of whomever", x.set(0, -7, 999), 0);
        due.is("ROUND was", x.set(0, 99, 3), 999);
        due.is("ROUND told of whomever", x.told(99, 0), 3);
        due.is("set of nobody", x.set(1, 0, 0), -2);
        x.person(BOY, 4, 12);
        int[] most = {999, 9, 7, 255, 255};
        int[] was = {3, 4, 0, 12, 0};
        for (int what = 0; what <= 4; what++) {
            due.is("set too much " + what, x.set(what, 0, most[what] + 1), -2);
            due.is("set below 0 " + what, x.set(what, 0, -1), -2);
            due.is("refused changes nothing " + what, x.told(0, what), was[what]);
            due.is("set " + what, x.set(what, 0, most[what]), was[what]);
            due.is("told " + what, x.told(0, what), most[what]);
            due.is("set back to 0 " + what, x.set(what, 0, 0), most[what]);
            if (what > 0) due.is("set of no such " + what, x.set(what, 1, 0), -2);
            if (what > 0) due.is("set of none " + what, x.set(what, -1, 0), -2);
        }
        due.is("set what 5", x.set(5, 0, 0), -2);
        due.is("set what -1", x.set(-1, 0, 0), -2);
        due.is("set extreme", x.set(Integer.MIN_VALUE, Integer.MAX_VALUE, Integer.MIN_VALUE), -2);
    }

    private static void roads() {
        PaidInKind x = new PaidInKind();
        due.is("a ROAD", x.road(2, 5, 99), 0);
        due.is("the same ROAD", x.road(5, 2, 1), 99);
        due.is("count", x.count(1), 1);
        due.is("taken away", x.road(2, 5, 0), 1);
        due.is("count of none", x.count(1), 0);
        due.is("one and the same", x.road(3, 3, 4), -2);
        due.is("no such", x.road(-1, 3, 4), -2);
        due.is("no such other", x.road(3, 8, 4), -2);
        due.is("miles", x.road(3, 4, 100), -2);
        due.is("miles below 0", x.road(3, 4, -1), -2);
        due.is("nothing changed", x.count(1), 0);
        x.person(LOCAL, 0, 0);
        x.road(0, 1, 50);
        x.road(1, 2, 10);
        x.road(0, 2, 70);
        due.is("by way of 1", x.told(0, 12), 60);
        x.road(0, 2, 59);
        due.is("straight", x.told(0, 12), 59);
        x.road(0, 2, 0);
        due.is("again by way of 1", x.told(0, 12), 60);
        x.road(1, 2, 0);
        due.is("no way: 999, told 99 at most", x.told(0, 12), 99);
    }

    private static void persons() {
        PaidInKind x = new PaidInKind();
        due.is("KIND", x.person(6, 0, 0), -2);
        due.is("KIND below 0", x.person(-1, 0, 0), -2);
        due.is("NUMBER", x.person(0, 10, 0), -2);
        due.is("NUMBER below 0", x.person(0, -1, 0), -2);
        due.is("KNOWS", x.person(0, 0, 256), -2);
        due.is("KNOWS below 0", x.person(0, 0, -1), -2);
        for (int i = 0; i < 6; i++) due.is("person " + i, x.person(i, 9 - i, 255 - i), i);
        due.is("FULL", x.person(0, 0, 0), -4);
        due.is("BAD ahead of FULL", x.person(0, 10, 0), -2);
        due.is("count", x.count(0), 6);
        for (int i = 0; i < 6; i++) {
            int[] comes = {0, 9 - i, 0, 255 - i, 0, i, 0};
            for (int what = 1; what < comes.length; what++) {
                due.is("as one comes: told(" + i + ", " + what + ")", x.told(i, what), comes[what]);
            }
        }
    }

    /** All KINDS, NUMBER 9, AT 0, 11 miles from 1. */
    private static PaidInKind allKinds() {
        PaidInKind x = new PaidInKind();
        x.road(0, 1, 11);
        for (int kind = 0; kind < 6; kind++) x.person(kind, 9, 0);
        return x;
    }

    private static void toldOfKinds() {
        PaidInKind x = allKinds();
        int[] worth = {11, 22, 20, 27, 10, 0};
        int[] worthHere = {0, 0, 9, 5, 4, 0};
        int[] time = {12, 12, 6, 21, 7, 20};
        int[] timeHere = {1, 1, 0, 10, 1, 20};
        for (int k = 0; k < 6; k++) {
            due.is("WORTH of KIND " + k, x.told(k, 11), worth[k]);
            due.is("WORTH here of KIND " + k, x.told(k, 10), worthHere[k]);
            due.is("TIME of KIND " + k, x.told(k, 21), time[k]);
            due.is("TIME here of KIND " + k, x.told(k, 20), timeHere[k]);
        }
        takes(x, 0, new int[] {0, 0, 1, 0, 0, 0});
        takes(x, 1, new int[] {1, 0, 1, 1, 1, 0});
        takes(x, 2, new int[] {1, 0, 1, 0, 1, 0});
        takes(x, 3, new int[] {1, 0, 1, 0, 1, 0});
        for (int k = 0; k < 6; k++) x.set(4, k, 255);
        takes(x, 0, new int[] {0, 0, 1, 0, 0, 0});
        takes(x, 1, new int[] {1, 1, 1, 1, 1, 0});
        takes(x, 2, new int[] {1, 1, 1, 1, 1, 0});
        takes(x, 3, new int[] {1, 1, 1, 1, 1, 0});
        x.set(1, JUDGE, 8);
        due.is("a JUDGE takes NUMBER modulo 8, even here", x.told(JUDGE, 30), 1);
        Due.text(x, "takes 0 ; worth 0 ; times 0 ;");
        x.force(1);
        takes(x, 0, new int[] {0, 0, 1, 1, 0, 0});
        takes(x, 1, new int[] {0, 0, 0, 0, 0, 0});
        takes(x, 2, new int[] {0, 0, 1, 0, 1, 0});
        Due.text(x, "takes -3 ; worth -1 ; times 0 - 2 ;");
        x.force(2);
        takes(x, 1, new int[] {1, 1, 1, 1, 1, 0});
        due.is("worth below 0 is 0", x.told(LOCAL, 11), 0);
        due.is("worth of a BOY is NUMBER then", x.told(BOY, 11), 9);
        due.is("times below 0 is 0", x.told(LOCAL, 21), 0);
        due.is("half of NUMBER, cut", x.told(TINKER, 11), 4);
        due.is("an ALMSMAN's TIME", x.told(ALMSMAN, 21), 20);
        Due.text(x, "takes 1 ; worth 100 ; times 9999 ;");
        x.force(3);
        due.is("worth above 99 is 99", x.told(LOCAL, 11), 99);
        due.is("twice that", x.told(MISER, 11), 198);
        due.is("5 more", x.told(JUDGE, 11), 203);
        due.is("times above 99 is 99", x.told(LOCAL, 21), 99);
        due.is("half of it, cut", x.told(BOY, 21), 49);
        due.is("NUMBER more", x.told(JUDGE, 21), 107);
    }

    private static void takes(PaidInKind x, int t, int[] want) {
        for (int k = 0; k < 6; k++) due.is("KIND " + k + " TAKES " + t, x.told(k, 30 + t), want[k]);
    }

    private static void toldBounds() {
        PaidInKind x = new PaidInKind();
        x.person(0, 0, 0);
        int[] wrong = {-1, 9, 18, 19, 28, 29, 38, 39, 40, 47, 100, 110, Integer.MIN_VALUE, Integer.MAX_VALUE};
        for (int what : wrong) due.is("told(0, " + what + ")", x.told(0, what), -2);
        for (int what = 1; what < 38; what++) {
            due.is("told(1, " + what + ")", x.told(1, what), -2);
            due.is("told(-1, " + what + ")", x.told(-1, what), -2);
        }
    }

    private static void hoardAndReach() {
        PaidInKind x = new PaidInKind();
        x.person(0, 0, 0b1110);
        due.is("HOARD of the only one", x.told(0, 7), 0b1110);
        x.person(0, 0, 0b0100);
        x.person(0, 0, 0b11000);
        due.is("HOARD", x.told(0, 7), 0b0010);
        due.is("HOARD of nothing", x.told(1, 7), 0);
        due.is("HOARD of the last", x.told(2, 7), 0b10000);
        due.is("REACH without ROADS", x.told(0, 8), 1);
        x.road(0, 1, 1);
        x.road(1, 4, 1);
        x.road(4, 2, 1);
        x.road(1, 3, 99);
        due.is("REACH: 2 lies behind 4", x.told(0, 8), 0b1011);
        x.set(2, 0, 4);
        due.is("REACH from an unknown PLACE", x.told(0, 8), 0b11110);
        due.is("REACH of who knows none near", x.told(1, 8), 1);
    }
}
