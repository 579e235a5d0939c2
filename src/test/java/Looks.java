import java.util.ArrayList;
import java.util.List;

/**
 * What later calls show of an object. A look changes what it looks at, so that each one is taken of an object of its own,
 * made by the same steps; setup and look together stay below the 512 calls for which an object is used.
 */
final class Looks {
    interface Steps {
        void on(PaidInKind x);
    }

    interface Call {
        long on(PaidInKind x);
    }

    private static final int PEOPLE = 0, TEXTS = 1, SHEETS = 2, IMAGE = 3, ALL = 4;

    private final List<Long> answers = new ArrayList<>();
    private final PaidInKind x;

    private Looks(PaidInKind x) {
        this.x = x;
    }

    /** Whether a call leaves all as the setup made it. */
    static boolean leaves(Steps setup, Call call) {
        return alike(setup, y -> {
            setup.on(y);
            call.on(y);
        });
    }

    /** Whether two ways to make an object make the same. */
    private static boolean alike(Steps one, Steps other) {
        for (int which = 0; which < ALL; which++) {
            if (!taken(one, which).equals(taken(other, which))) return false;
        }
        return true;
    }

    private static List<Long> taken(Steps setup, int which) {
        Looks looks = new Looks(new PaidInKind());
        setup.on(looks.x);
        switch (which) {
            case PEOPLE: looks.people(); break;
            case TEXTS: looks.texts(); break;
            case SHEETS: looks.sheets(); break;
            default:
                looks.see(looks.x.back());
                looks.people();
        }
        return looks.answers;
    }

    private void see(long answer) {
        answers.add(answer);
    }

    private void people() {
        for (int what = 0; what < 6; what++) see(x.count(what));
        for (int one = 0; one < x.count(0); one++) {
            for (int what = 0; what < 38; what++) if (what < 9 || what >= 10 && what % 10 < 8) see(x.told(one, what));
        }
        see(x.told(0, 0));
        for (int what = 0; what < 4; what++) see(x.all(what));
        for (int what = 0; what < 2; what++) see(x.run(20, what));
        for (int i = 0; i < 8; i++) for (int j = i + 1; j < 8; j++) see(x.road(i, j, 0));
    }

    /** A TEXT begun on THE TAPE is ended here. */
    private void texts() {
        Due.feed(x, "3;");
        see(x.text());
        see(x.count(4));
        see(x.text());
        see(x.force(0));
        x.person(0, 7, 7);
        for (int text = 0; text < 6; text++) {
            see(x.force(text));
            for (int way = 0; way < 8; way++) for (int part = 1; part <= 3; part++) see(x.told(0, 10 * part + way));
        }
    }

    /** Numbers 0 .. 5 in a SHEET can all be seen, as the KIND, NUMBER and KNOWS of one who comes by it. */
    private void sheets() {
        x.image();
        for (int sheet = 0; sheet < 4; sheet++) {
            see(x.cell(sheet, 40, 0));
            int sort = -1;
            for (int k = 0; k < 3; k++) {
                int sameSort = x.people(sheet, k, 0, 0);
                see(sameSort);
                if (sameSort == 0) sort = k;
            }
            for (int n = 0; n <= 40; n++) see(x.copy(sheet, n, sheet, n, 0));
            for (int i = 0; i < 9; i += i == 3 ? 2 : 3) {
                see(x.people(sheet, sort, i, 1));
                int last = x.count(0) - 1;
                for (int what : new int[] {5, 1, 3}) see(x.told(last, what));
                x.back();
            }
        }
    }
}
