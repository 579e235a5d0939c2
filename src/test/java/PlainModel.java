import java.util.ArrayList;
import java.util.Arrays;
import java.util.List;

/**
 * The document once more, in the plainest way: people as objects of their kinds, texts as trees, nothing kept
 * that could be worked out anew, every way tried. RandomRunsTest holds the program against it.
 */
final class PlainModel {
    static final int NONE = -1, BAD = -2, STATE = -3, FULL = -4;
    static final long NO = -4611686018427387904L;

    static final class Town {
        int[][] miles = new int[8][8];
        int round = 0;
        int rule = 0;
        List<Local> people = new ArrayList<>();
        List<Text> texts;

        Town copy() {
            Town t = new Town();
            for (int i = 0; i < 8; i++) t.miles[i] = miles[i].clone();
            t.round = round;
            t.rule = rule;
            t.texts = texts;
            for (Local p : people) t.people.add(p.as(p.kind(), t));
            return t;
        }

        int far(int from, int to) {
            return least(from, to, 255);
        }

        int least(int from, int to, int known) {
            int[] far = new int[8];
            Arrays.fill(far, 100000);
            far[from] = 0;
            for (int i = 0; i < 8; i++) {
                for (int a = 0; a < 8; a++) {
                    for (int b = 0; b < 8; b++) {
                        boolean may = miles[a][b] > 0 && (known & 1 << b) != 0;
                        if (may) far[b] = Math.min(far[b], far[a] + miles[a][b]);
                    }
                }
            }
            return far[to] >= 100000 ? -1 : far[to];
        }

        int ways() {
            int sum = 0;
            for (Local p : people) sum += Integer.bitCount(p.knows);
            return sum;
        }

        int minutes() {
            int sum = 0;
            for (Local p : people) sum += p.minutes;
            return sum;
        }

        int payment(Local a, Local b, int t) {
            if (!b.knows(t) || a.knows(t)) return NONE;
            if (b.free()) return 8;
            int best = NONE;
            for (int p = 7; p >= 0; p--) {
                if (!a.knows(p) || b.knows(p) || !b.takes(p)) continue;
                if (best == NONE || a.worthOf(p) <= a.worthOf(best)) best = p;
            }
            return best;
        }

        int trade(Local a, Local b, int t) {
            int pay = payment(a, b, t);
            if (pay == NONE) return NONE;
            int ofA = pay == 8 ? 0 : a.timeOf(pay);
            int ofB = b.timeOf(t);
            a.minutes = Math.min(99999, a.minutes + ofA);
            b.minutes = Math.min(99999, b.minutes + ofB);
            a.knows |= 1 << t;
            if (pay != 8) b.knows |= 1 << pay;
            return pay;
        }

        int round(int without) {
            int trades = 0;
            for (int i = 0; i < people.size(); i++) {
                for (int j = 0; j < people.size(); j++) {
                    if (i == j || i == without || j == without) continue;
                    for (int t = 0; t < 8; t++) {
                        if ((people.get(i).wants & 1 << t) == 0) continue;
                        if (trade(people.get(i), people.get(j), t) == NONE) continue;
                        trades++;
                        break;
                    }
                }
            }
            round++;
            return trades;
        }

        Town behind(int rounds, int without) {
            Town t = copy();
            for (int i = 0; i < rounds; i++) t.round(without);
            return t;
        }
    }

    static class Local {
        Town town;
        int number, at, knows, wants, minutes;

        int kind() { return 0; }
        boolean takes(int t) { return said(t, 0) != 0; }
        int worth(int t) { return bound(said(t, 1), 99); }
        int time(int t) { return bound(said(t, 2), 99); }
        boolean free() { return false; }

        final int worthOf(int t) { return bound(worth(t), 999); }
        final int timeOf(int t) { return bound(time(t), 999); }
        final boolean knows(int t) { return (knows & 1 << t) != 0; }
        final boolean wants(int t) { return (wants & 1 << t) != 0; }

        final int said(int t, int part) {
            int far = town.far(at, t);
            int[] names = {t, number, Integer.bitCount(knows), far < 0 ? 999 : far, at == t ? 1 : 0, town.round};
            return town.texts.get(town.rule).parts[part].value(names);
        }

        final Local as(int kind, Town of) {
            Local p = ofKind(kind);
            p.town = of;
            p.number = number;
            p.at = at;
            p.knows = knows;
            p.wants = wants;
            p.minutes = minutes;
            return p;
        }
    }

    static class Miser extends Local {
        int kind() { return 1; }
        boolean takes(int t) { return wants(t) && super.takes(t); }
        int worth(int t) { return 2 * super.worth(t); }
    }

    static class Boy extends Local {
        int kind() { return 2; }
        boolean takes(int t) { return t % 2 == 0 || super.takes(t); }
        int worth(int t) { return super.worth(t) + number; }
        int time(int t) { return super.time(t) / 2; }
    }

    static final class Judge extends Miser {
        int kind() { return 3; }
        boolean takes(int t) { return super.takes(t) || t == number % 8; }
        int worth(int t) { return super.worth(t) + 5; }
        int time(int t) { return super.time(t) + number; }
    }

    static final class Tinker extends Boy {
        int kind() { return 4; }
        boolean takes(int t) { return super.takes(t) && t != at; }
        int worth(int t) { return super.worth(t) / 2; }
        int time(int t) { return super.time(t) + 1; }
        boolean free() { return number > 6; }
    }

    static final class Almsman extends Local {
        int kind() { return 5; }
        boolean takes(int t) { return false; }
        int worth(int t) { return 0; }
        int time(int t) { return 20; }
        boolean free() { return true; }
    }

    static Local ofKind(int kind) {
        switch (kind) {
            case 0: return new Local();
            case 1: return new Miser();
            case 2: return new Boy();
            case 3: return new Judge();
            case 4: return new Tinker();
            default: return new Almsman();
        }
    }

    static Class<?> classOf(int kind) {
        return ofKind(kind).getClass();
    }

    static int bound(int v, int most) {
        return v < 0 ? 0 : v > most ? most : v;
    }

    // ---- texts

    static final class Fault extends RuntimeException {
        private static final long serialVersionUID = 1;
        final int place;

        Fault(int place) {
            this.place = place;
        }
    }

    static final class Node {
        final String op;
        final Node left, right;

        Node(String op, Node left, Node right) {
            this.op = op;
            this.left = left;
            this.right = right;
        }

        int value(int[] names) {
            int name = NAMES.indexOf(op);
            if (name >= 0) return names[name];
            if (Character.isDigit(op.charAt(0))) return Integer.parseInt(op);
            int x = left.value(names);
            if (right == null) return op.equals("not") ? (x == 0 ? 1 : 0) : -x;
            int y = right.value(names);
            switch (op) {
                case "or": return x != 0 || y != 0 ? 1 : 0;
                case "and": return x != 0 && y != 0 ? 1 : 0;
                case "<": return x < y ? 1 : 0;
                case "=": return x == y ? 1 : 0;
                case "+": return x + y;
                case "-": return x - y;
                default: return x * y;
            }
        }
    }

    static final List<String> NAMES = List.of("place", "number", "known", "far", "here", "round");
    static final List<String> KEYS = List.of("takes", "worth", "times", "or", "and", "not");

    /** Splits all of the tape first; a token that can't be is the text "?". */
    static final class Text {
        final Node[] parts = new Node[3];
        private final List<String> tokens = new ArrayList<>();
        private final List<Integer> places = new ArrayList<>();
        private int next = 0;

        Text(String tape) {
            split(tape);
            for (int i = 0; i < 3; i++) {
                need(KEYS.get(i));
                parts[i] = either(0);
                need(";");
            }
            need("");
        }

        private void split(String tape) {
            int i = 0;
            while (i < tape.length()) {
                String rest = tape.substring(i);
                String token;
                if (rest.matches("(?s)[ \n].*")) {
                    i++;
                    continue;
                } else if (rest.matches("(?s)[a-z].*")) {
                    token = rest.replaceAll("(?s)[^a-z].*", "");
                } else if (rest.matches("(?s)[0-9].*")) {
                    token = rest.replaceAll("(?s)[^0-9].*", "");
                } else {
                    token = rest.substring(0, 1);
                }
                boolean word = token.matches("[a-z]+") && (NAMES.contains(token) || KEYS.contains(token));
                boolean can = word || token.matches("[0-9]{1,4}") || token.matches("[();+*<=-]");
                tokens.add(can ? token : "?");
                places.add(i);
                i += token.length();
            }
            tokens.add("");
            places.add(tape.length());
        }

        private Fault fault() {
            return new Fault(places.get(next));
        }

        private boolean at(String token) {
            return tokens.get(next).equals(token);
        }

        private void need(String token) {
            if (!at(token)) throw fault();
            if (!token.isEmpty()) next++;
        }

        private String take() {
            return tokens.get(next++);
        }

        private Node either(int open) {
            Node n = both(open);
            while (at("or")) n = new Node(take(), n, both(open));
            return n;
        }

        private Node both(int open) {
            Node n = denial(open);
            while (at("and")) n = new Node(take(), n, denial(open));
            return n;
        }

        private Node denial(int open) {
            if (at("not")) {
                if (open == 5) throw fault();
                return new Node(take(), denial(open + 1), null);
            }
            Node n = sum(open);
            if (at("<") || at("=")) n = new Node(take(), n, sum(open));
            return n;
        }

        private Node sum(int open) {
            Node n = term(open);
            while (at("+") || at("-")) n = new Node(take(), n, term(open));
            return n;
        }

        private Node term(int open) {
            Node n = one(open);
            while (at("*")) n = new Node(take(), n, one(open));
            return n;
        }

        private Node one(int open) {
            String token = tokens.get(next);
            if (NAMES.contains(token) || token.matches("[0-9]+")) return new Node(take(), null, null);
            if (!token.equals("-") && !token.equals("(") || open == 5) throw fault();
            if (at("-")) return new Node(take(), one(open + 1), null);
            take();
            Node n = either(open + 1);
            need(")");
            return n;
        }
    }

    // ---- the face

    private final List<Text> texts = new ArrayList<>();
    private Town town = new Town();
    private Town kept = null;
    private String tape = "";
    private final Object[] sheets = new Object[4];

    PlainModel() {
        town.texts = texts;
        texts.add(new Text("takes not here ; worth far ; times 1 + far ;"));
    }

    private boolean isOne(int one) {
        return one >= 0 && one < town.people.size();
    }

    private static boolean in(int v, int least, int most) {
        return v >= least && v <= most;
    }

    int set(int what, int of, int v) {
        if (what == 0) {
            if (!in(v, 0, 999)) return BAD;
            int was = town.round;
            town.round = v;
            return was;
        }
        if (!in(what, 1, 4) || !isOne(of)) return BAD;
        Local p = town.people.get(of);
        int was = told(of, what);
        if (what == 1 && in(v, 0, 9)) p.number = v;
        else if (what == 2 && in(v, 0, 7)) p.at = v;
        else if (what == 3 && in(v, 0, 255)) p.knows = v;
        else if (what == 4 && in(v, 0, 255)) p.wants = v;
        else return BAD;
        return was;
    }

    int road(int one, int other, int miles) {
        if (!in(one, 0, 7) || !in(other, 0, 7) || one == other || !in(miles, 0, 99)) return BAD;
        int was = town.miles[one][other];
        town.miles[one][other] = miles;
        town.miles[other][one] = miles;
        return was;
    }

    int person(int kind, int number, int knows) {
        if (!in(kind, 0, 5) || !in(number, 0, 9) || !in(knows, 0, 255)) return BAD;
        if (town.people.size() == 6) return FULL;
        Local p = ofKind(kind);
        p.town = town;
        p.number = number;
        p.knows = knows;
        town.people.add(p);
        return town.people.size() - 1;
    }

    int told(int of, int what) {
        if (what == 0) return town.round;
        if (!isOne(of)) return BAD;
        Local p = town.people.get(of);
        switch (what) {
            case 1: return p.number;
            case 2: return p.at;
            case 3: return p.knows;
            case 4: return p.wants;
            case 5: return p.kind();
            case 6: return p.minutes;
            case 7: {
                int hoard = p.knows;
                for (Local q : town.people) if (q != p) hoard &= ~q.knows;
                return hoard;
            }
            case 8: {
                int reach = 0;
                for (int t = 0; t < 8; t++) if (town.least(p.at, t, p.knows) >= 0) reach |= 1 << t;
                return reach;
            }
            default:
                if (in(what, 10, 17)) return p.worthOf(what - 10);
                if (in(what, 20, 27)) return p.timeOf(what - 20);
                if (in(what, 30, 37)) return p.takes(what - 30) ? 1 : 0;
                return BAD;
        }
    }

    int feed(int letter) {
        if (!in(letter, 0, 255)) return BAD;
        if (tape.length() == 160) return FULL;
        tape += (char) letter;
        return tape.length();
    }

    int text() {
        if (texts.size() == 6) return FULL;
        String read = tape;
        tape = "";
        try {
            texts.add(new Text(read));
            return texts.size() - 1;
        } catch (Fault f) {
            return -100 - f.place;
        }
    }

    int force(int text) {
        if (!in(text, 0, texts.size() - 1)) return BAD;
        int was = town.rule;
        town.rule = text;
        return was;
    }

    int pays(int a, int b, int t) {
        if (!isOne(a) || !isOne(b) || a == b || !in(t, 0, 7)) return BAD;
        return town.payment(town.people.get(a), town.people.get(b), t);
    }

    int trade(int a, int b, int t) {
        if (!isOne(a) || !isOne(b) || a == b || !in(t, 0, 7)) return BAD;
        int pay = town.trade(town.people.get(a), town.people.get(b), t);
        return pay == NONE ? STATE : pay;
    }

    int round() {
        return town.round == 999 ? STATE : town.round(NONE);
    }

    int run(int n, int what) {
        if (!in(n, 0, 20)) return BAD;
        Town then = town.behind(n, NONE);
        if (what == 0) return then.ways();
        if (what == 1) return then.minutes() - town.minutes();
        return what >= 10 && isOne(what - 10) ? then.people.get(what - 10).knows : BAD;
    }

    int all(int what) {
        int any = 0;
        int every = 255;
        for (Local p : town.people) {
            any |= p.knows;
            every &= p.knows;
        }
        switch (what) {
            case 0: return town.ways();
            case 1: return any;
            case 2: return every;
            case 3: return town.copy().round(NONE) == 0 ? 1 : 0;
            default: return BAD;
        }
    }

    int soon(int one, int t) {
        if (!isOne(one) || !in(t, 0, 7)) return BAD;
        for (int n = 0; n <= 20; n++) if (town.behind(n, NONE).people.get(one).knows(t)) return n;
        return NONE;
    }

    int gift(int one, int what) {
        if (!isOne(one) || !in(what, 0, 1)) return BAD;
        int most = town.behind(8, NONE).ways();
        int best = NONE;
        for (int t = 0; t < 8; t++) {
            Town with = town.copy();
            with.people.get(one).knows |= 1 << t;
            int ways = with.behind(8, NONE).ways();
            if (ways > most) {
                most = ways;
                best = t;
            }
        }
        return what == 0 ? best : most;
    }

    int missed(int what) {
        if (!in(what, 0, 1)) return BAD;
        int who = NONE;
        int least = Integer.MAX_VALUE;
        for (int i = 0; i < town.people.size(); i++) {
            // who neither asks nor is asked knows as much then as now
            int more = town.behind(8, i).ways() - town.ways();
            if (more < least) {
                least = more;
                who = i;
            }
        }
        return what == 0 || who == NONE ? who : least;
    }

    int walk(int one, int x, int y) {
        if (!isOne(one) || !in(x, 0, 7) || !in(y, 0, 7)) return BAD;
        return town.least(x, y, town.people.get(one).knows);
    }

    private static int item(Object sheet, int i) {
        if (sheet instanceof byte[] b) return b[i];
        if (sheet instanceof short[] s) return s[i];
        return ((int[]) sheet)[i];
    }

    private static int size(Object sheet) {
        return java.lang.reflect.Array.getLength(sheet);
    }

    private static int otherwise(Object sheet, Local p) {
        for (int t = 0; t < 8; t++) if (item(sheet, t) != p.worthOf(t)) return t;
        return NONE;
    }

    int tells(int sheet, int one, int what) {
        if (!in(sheet, 0, 3) || !isOne(one) || !in(what, 0, 5)) return BAD;
        if (sheets[sheet] == null) return -11;
        if (size(sheets[sheet]) != 8) return BAD;
        if (what == 0) return otherwise(sheets[sheet], town.people.get(one));
        int[] most = {0, 6, 10, 8, texts.size(), town.people.size()};
        int bits = 0;
        for (int i = 0; i < most[what]; i++) {
            Town then = town.copy();
            Local p = then.people.get(what == 5 ? i : one);
            if (what == 1) p = p.as(i, then);
            if (what == 2) p.number = i;
            if (what == 3) p.at = i;
            if (what == 4) then.rule = i;
            if (otherwise(sheets[sheet], p) == NONE) bits |= 1 << i;
        }
        return bits;
    }

    int film(int sheet, int one) {
        if (!in(sheet, 0, 3) || !isOne(one)) return BAD;
        short[] row = new short[8];
        int sum = 0;
        for (int t = 0; t < 8; t++) {
            row[t] = (short) town.people.get(one).worthOf(t);
            sum += row[t];
        }
        sheets[sheet] = row;
        return sum;
    }

    int drawn(int seed) {
        Town then = town.copy();
        int z = seed;
        for (Local p : then.people) {
            z = z * 1103515245 + 12345;
            p.knows = (z >>> 9) % 256;
        }
        return then.behind(5, NONE).ways();
    }

    long chance(int seed, int m, int k, int part) {
        if (!in(m, 1, 20) || !in(k, 0, 48) || !in(part, 0, 1)) return NO;
        int above = 0;
        for (int i = 0; i < m; i++) if (drawn(seed + i) >= k) above++;
        int divisor = java.math.BigInteger.valueOf(above).gcd(java.math.BigInteger.valueOf(m)).intValue();
        return (part == 0 ? above : m) / divisor;
    }

    int image() {
        kept = town.copy();
        return town.people.size();
    }

    int back() {
        if (kept == null) return STATE;
        town = kept.copy();
        return town.people.size();
    }

    int count(int what) {
        int roads = 0;
        for (int i = 0; i < 8; i++) for (int j = 0; j < i; j++) if (town.miles[i][j] > 0) roads++;
        int[] counts = {town.people.size(), roads, town.minutes(), texts.size(), tape.length(), town.rule};
        return in(what, 0, 5) ? counts[what] : BAD;
    }

    /** From here on the host's own arrays and refusals serve: what Java throws is what is answered. */
    int sheet(int sheet, int sort, int n) {
        if (!in(sheet, 0, 3) || !in(sort, -1, 2)) return BAD;
        if (sort >= 0 && n > 40) return BAD;
        try {
            sheets[sheet] = sort == -1 ? null : sort == 0 ? new byte[n] : sort == 1 ? new short[n] : new int[n];
            return 1;
        } catch (NegativeArraySizeException e) {
            return -14;
        }
    }

    int cell(int sheet, int i, int v) {
        if (!in(sheet, 0, 3)) return BAD;
        try {
            if (sheets[sheet] instanceof byte[] b) b[i] = (byte) v;
            else if (sheets[sheet] instanceof short[] s) s[i] = (short) v;
            else ((int[]) sheets[sheet])[i] = v;
            return 1;
        } catch (NullPointerException e) {
            return -11;
        } catch (ArrayIndexOutOfBoundsException e) {
            return -12;
        }
    }

    int copy(int sheet, int i, int other, int j, int n) {
        if (!in(sheet, 0, 3) || !in(other, 0, 3)) return BAD;
        try {
            System.arraycopy(sheets[sheet], i, sheets[other], j, n);
            return n;
        } catch (NullPointerException e) {
            return -11;
        } catch (ArrayStoreException e) {
            return -13;
        } catch (IndexOutOfBoundsException e) {
            return -12;
        }
    }

    int people(int sheet, int sort, int from, int n) {
        if (!in(sheet, 0, 3) || !in(sort, 0, 2) || !in(n, 0, 6)) return BAD;
        Class<?>[] sorts = {byte[].class, short[].class, int[].class};
        try {
            Object row = sorts[sort].cast(sheets[sheet]);
            if (row == null) return -11;
            int came = 0;
            for (int k = 0; k < n; k++) {
                int i = from + 3 * k;
                if (person(item(row, i), item(row, i + 1), item(row, i + 2)) >= 0) came++;
            }
            return came;
        } catch (ClassCastException e) {
            return -13;
        } catch (ArrayIndexOutOfBoundsException e) {
            return -12;
        }
    }

    int taken(int one, int k) {
        if (!in(k, 0, 5)) return BAD;
        if (!isOne(one)) return -11;
        Local p = town.people.get(one);
        return classOf(k).isInstance(p) ? p.number : -13;
    }
}
