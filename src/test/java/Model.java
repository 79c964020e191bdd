import java.util.ArrayList;
import java.util.HashSet;
import java.util.List;
import java.util.Set;

/**
 * A second program for the same document, by other ways than the first wherever there are
 * any: kinds as Java classes, sets and partitions tried one by one, texts cut at their signs,
 * faults by all that the grammar could still become. Slow, and no part of what is shipped.
 */
final class Model {
    private static final int NONE = -1, BAD = -2, STATE = -3, FULL = -4, LACKING = -5;
    private static final int NOTHING = -11, CAST = -12, PLACE = -13, SIZE = -14;
    private static final long NO = Long.MIN_VALUE;

    // ---- kinds

    private static class Plain {
        int i;
        int v;
        int purse = 100;
        int[] row = new int[4];
        int[] debts = new int[6];
        List<Integer> ran;

        int kind() {
            return 0;
        }

        int grips(int x) {
            ran.add(10);
            return x + i;
        }

        int lets(int x) {
            ran.add(11);
            return grips(x) - v;
        }

        int tells(int x) {
            ran.add(12);
            return lets(x) * 2;
        }

        int heard(int force, int day) {
            return force;
        }
    }

    private static class Broker extends Plain {
        int kind() {
            return 1;
        }

        int lets(int x) {
            ran.add(20);
            return super.lets(x) ^ 6;
        }

        int heard(int force, int day) {
            return force + v + v;
        }
    }

    private static class Gloved extends Plain {
        int kind() {
            return 2;
        }

        int grips(int x) {
            ran.add(30);
            return super.grips(x * 3);
        }

        int heard(int force, int day) {
            int sixth = Math.abs(force) / 6;
            return force < 0 ? force + sixth : force - sixth;
        }
    }

    private static class Frail extends Plain {
        int kind() {
            return 3;
        }

        int tells(int x) {
            ran.add(40);
            return super.tells(x) + lets(1);
        }

        int heard(int force, int day) {
            int half = Math.abs(force) / 2;
            return force < 0 ? -half : half;
        }
    }

    private static final class Porter extends Broker {
        int kind() {
            return 4;
        }

        int grips(int x) {
            ran.add(50);
            return -super.grips(x);
        }

        int lets(int x) {
            ran.add(51);
            return super.lets(x + 1);
        }

        int heard(int force, int day) {
            return day % 7 == 6 ? 0 : super.heard(force, day);
        }
    }

    private static final class Apprentice extends Gloved {
        int kind() {
            return 5;
        }

        int tells(int x) {
            ran.add(60);
            return super.tells(x - i);
        }

        int heard(int force, int day) {
            return super.heard(force, day) - v;
        }
    }

    private static final class Told extends Frail {
        int kind() {
            return 6;
        }

        int lets(int x) {
            ran.add(70);
            return super.lets(x) + super.grips(2);
        }

        int grips(int x) {
            ran.add(71);
            return super.grips(x) ^ v;
        }

        int heard(int force, int day) {
            return super.heard(force, day) + row[day % 4];
        }
    }

    private static final Class<?>[] KINDS = {
        Plain.class, Broker.class, Gloved.class, Frail.class, Porter.class, Apprentice.class, Told.class
    };

    private static Plain make(int kind) {
        switch (kind) {
            case 0: return new Plain();
            case 1: return new Broker();
            case 2: return new Gloved();
            case 3: return new Frail();
            case 4: return new Porter();
            case 5: return new Apprentice();
            default: return new Told();
        }
    }

    // ---- state

    private static final class State {
        List<Plain> traders = new ArrayList<>();
        int day;
        List<int[]> seen = new ArrayList<>();
        List<int[]> plan = new ArrayList<>();
        List<int[]> book = new ArrayList<>();
        String holds = "";

        State copy(List<Integer> ran) {
            State s = new State();
            for (Plain t : traders) {
                Plain u = make(t.kind());
                u.i = t.i;
                u.v = t.v;
                u.purse = t.purse;
                u.row = t.row.clone();
                u.debts = t.debts.clone();
                u.ran = ran;
                s.traders.add(u);
            }
            s.day = day;
            s.seen.addAll(seen);
            s.plan.addAll(plan);
            s.book.addAll(book);
            s.holds = holds;
            return s;
        }
    }

    private State now = new State();
    private State image = null;
    private String text = "";
    private int exchanges = 0;
    private final List<Integer> ran = new ArrayList<>();
    private final Object[] tapes = new Object[6];

    private int size() {
        return now.traders.size();
    }

    private boolean is(int trader) {
        return trader >= 0 && trader < size();
    }

    private static boolean in(long n, long least, long most) {
        return n >= least && n <= most;
    }

    // ---- exchanges: texts cut at their signs

    private static List<String> cut(String s, char at) {
        List<String> parts = new ArrayList<>();
        int depth = 0;
        int from = 0;
        for (int i = 0; i < s.length(); i++) {
            char c = s.charAt(i);
            depth += c == '(' ? 1 : c == ')' ? -1 : 0;
            if (c == at && depth == 0) {
                parts.add(s.substring(from, i));
                from = i + 1;
            }
        }
        parts.add(s.substring(from));
        return parts;
    }

    private static boolean holds(String e, int[] facts) {
        for (String t : cut(e, '|')) {
            boolean all = true;
            for (String f : cut(t, '&')) {
                all &= factor(f, facts);
            }
            if (all) {
                return true;
            }
        }
        return false;
    }

    private static boolean factor(String f, int[] facts) {
        if (f.charAt(0) == '!') {
            return !factor(f.substring(1), facts);
        }
        if (f.charAt(0) == '(') {
            return holds(f.substring(1, f.length() - 1), facts);
        }
        int fact = facts["pqkvsd".indexOf(f.charAt(0))];
        int order = Integer.compare(fact, Integer.parseInt(f.substring(2)));
        return order == "<=>".indexOf(f.charAt(1)) - 1;
    }

    private int bind() {
        int bind = 5;
        for (String clause : now.holds.split(";")) {
            if (clause.startsWith("bind ")) {
                bind = Integer.parseInt(clause.substring(5));
            }
        }
        return bind;
    }

    private int readAs(int one, int other, int squeeze, int day) {
        Plain t = now.traders.get(one);
        int[] facts = {one, other, t.kind(), t.v, squeeze / 10, day % 10};
        int force = squeeze;
        for (String clause : now.holds.split(";")) {
            String[] parts = clause.split(" ");
            if (parts.length == 3 && holds(parts[2], facts)) {
                force += (parts[0].equals("firm") ? 1 : -1) * Integer.parseInt(parts[1]);
            }
        }
        int sum = t.heard(force, day);
        return sum < bind() ? 0 : sum;
    }

    /**
     * Each row of signs is one way in which the text may go on. Capitals are yet to be
     * unfolded: X the rest behind a clause, C a clause, N a number, W its second digit, T a
     * test, E F a condition and a factor, G what may follow a factor; the depth or how many
     * clauses there are stands behind each, as a sign.
     */
    private static int fault(String text) {
        Set<String> ways = new HashSet<>();
        unfold("C\0X\1", ways);
        for (int i = 0; i < text.length(); i++) {
            Set<String> next = new HashSet<>();
            for (String way : ways) {
                if (!way.isEmpty() && way.charAt(0) == text.charAt(i)) {
                    unfold(way.substring(1), next);
                }
            }
            if (next.isEmpty()) {
                return i;
            }
            ways = next;
        }
        return ways.contains("") ? -1 : text.length();
    }

    private static void unfold(String way, Set<String> into) {
        if (way.isEmpty() || !Character.isUpperCase(way.charAt(0))) {
            into.add(way);
            return;
        }
        char depth = way.charAt(1);
        String rest = way.substring(2);
        for (String start : starts(way.charAt(0), depth)) {
            unfold(start + rest, into);
        }
    }

    private static List<String> starts(char part, char depth) {
        List<String> s = new ArrayList<>();
        String same = "" + depth;
        String more = "" + (char) (depth + 1);
        switch (part) {
            case 'X':
                s.add("");
                if (depth < 10) {
                    s.add(";C\0X" + more);
                }
                break;
            case 'C':
                s.add("firm N\0 E\0");
                s.add("limp N\0 E\0");
                s.add("bind N\0");
                break;
            case 'N':
                for (char c = '0'; c <= '9'; c++) {
                    s.add(c + "W\0");
                }
                break;
            case 'W':
                s.add("");
                for (char c = '0'; c <= '9'; c++) {
                    s.add("" + c);
                }
                break;
            case 'T':
                for (char letter : "pqkvsd".toCharArray()) {
                    for (char sign : "<=>".toCharArray()) {
                        s.add("" + letter + sign + "N\0");
                    }
                }
                break;
            case 'E':
                s.add("F" + same + "G" + same);
                break;
            case 'G':
                s.add("");
                s.add("&F" + same + "G" + same);
                s.add("|F" + same + "G" + same);
                break;
            default:
                s.add("T\0");
                if (depth < 4) {
                    s.add("!F" + more);
                    s.add("(E" + more + ")");
                }
        }
        return s;
    }

    // ---- debts

    private static int owes(State s, int one) {
        int sum = 0;
        for (int debt : s.traders.get(one).debts) {
            sum += debt;
        }
        return sum;
    }

    private static int owed(State s, int one) {
        int sum = 0;
        for (Plain t : s.traders) {
            sum += t.debts[one];
        }
        return sum;
    }

    private static int total(State s) {
        int sum = 0;
        for (Plain t : s.traders) {
            sum += owes(s, t.i);
        }
        return sum;
    }

    private static int fails(State s, int already) {
        int failed = already;
        for (int one = s.traders.size() - 1; one >= 0; one--) {
            int has = s.traders.get(one).purse;
            for (Plain t : s.traders) {
                has += (failed & 1 << t.i) == 0 ? t.debts[one] : 0;
            }
            if ((failed & 1 << one) == 0 && owes(s, one) > has) {
                return fails(s, failed | 1 << one);
            }
        }
        return failed;
    }

    private int rescue() {
        for (int many = 0; many <= size(); many++) {
            for (int set = 0; set < 1 << size(); set++) {
                if (Integer.bitCount(set) == many) {
                    State s = now.copy(ran);
                    for (Plain t : s.traders) {
                        t.purse = (set & 1 << t.i) != 0 ? 99999 : t.purse;
                    }
                    if (fails(s, 0) == 0) {
                        return set;
                    }
                }
            }
        }
        throw new IllegalStateException("the document says that there is always one");
    }

    private boolean failsWith(int one, int gift) {
        State s = now.copy(ran);
        s.traders.get(one).purse += gift;
        return (fails(s, 0) & 1 << one) != 0;
    }

    /** More never harms, so that halving finds the least. */
    private int gift(int one) {
        if (failsWith(one, 9999)) {
            return LACKING;
        }
        int least = 0;
        int most = 9999;
        while (least < most) {
            int middle = (least + most) / 2;
            if (failsWith(one, middle)) {
                least = middle + 1;
            } else {
                most = middle;
            }
        }
        return least;
    }

    /** Every way to part the traders into sets: each comes to a set that is there, or opens one. */
    private int mostSets(int one, List<Integer> sums) {
        if (one == size()) {
            for (int sum : sums) {
                if (sum != 0) {
                    return -1;
                }
            }
            return sums.size();
        }
        int balance = owed(now, one) - owes(now, one);
        int best = -1;
        for (int i = 0; i <= sums.size(); i++) {
            List<Integer> with = new ArrayList<>(sums);
            if (i == sums.size()) {
                with.add(balance);
            } else {
                with.set(i, with.get(i) + balance);
            }
            best = Math.max(best, mostSets(one + 1, with));
        }
        return best;
    }

    private int ring(List<Integer> walk) {
        int best = 0;
        if (walk.size() > 1 && now.traders.get(walk.get(walk.size() - 1)).debts[walk.get(0)] > 0) {
            best = walk.size();
        }
        for (int next = 0; next < size(); next++) {
            boolean on = walk.isEmpty() || now.traders.get(walk.get(walk.size() - 1)).debts[next] > 0;
            if (on && !walk.contains(next)) {
                List<Integer> longer = new ArrayList<>(walk);
                longer.add(next);
                best = Math.max(best, ring(longer));
            }
        }
        return best;
    }

    private int offset() {
        int sum = 0;
        for (Plain t : now.traders) {
            for (Plain u : now.traders) {
                sum += t.debts[u.i] - Math.min(t.debts[u.i], u.debts[t.i]);
            }
        }
        return sum;
    }

    private State planned() {
        State s = now.copy(ran);
        for (int[] r : s.plan) {
            if (r[0] == 0) {
                s.day++;
                continue;
            }
            Plain t = s.traders.get(r[1]);
            for (Plain u : s.traders) {
                if (r[0] == 3) {
                    u.debts[t.i] = 0;
                } else if (r[0] == 2) {
                    t.debts[u.i] = 0;
                } else {
                    while (t.debts[u.i] > 0 && t.purse > 0) {
                        t.debts[u.i]--;
                        t.purse--;
                        u.purse += u.purse < 9999 ? 1 : 0;
                    }
                }
            }
        }
        return s;
    }

    private static long lowest(int above, int below, int part) {
        for (int d = Math.max(above, below); d > 0; d--) {
            if (above % d == 0 && below % d == 0) {
                return part == 0 ? above / d : below / d;
            }
        }
        return NO;
    }

    private boolean so(int[] r) {
        return readAs(r[0], r[1], r[2], now.day + r[3]) == r[4];
    }

    // ---- the calls, by their names

    long call(String name, long... a) {
        int p = a.length > 0 ? (int) a[0] : 0;
        int q = a.length > 1 ? (int) a[1] : 0;
        int r = a.length > 2 ? (int) a[2] : 0;
        int s = a.length > 3 ? (int) a[3] : 0;
        int t = a.length > 4 ? (int) a[4] : 0;
        switch (name) {
            case "trader": return trader(p, q);
            case "of": return of(p, q);
            case "owe": return owe(p, q, r);
            case "purse": return purse(p, q);
            case "reads": return reads(p, q, r, s);
            case "shake": return shake(p, q, r);
            case "between": return between(p, q, r);
            case "squeezes": return squeezes(p, q, r, s);
            case "row": return row(p, q, r);
            case "feed": return feed(p);
            case "exchange": return exchange();
            case "told": return told(p);
            case "pass": return pass(p);
            case "see": return see(p, q, r, s, t);
            case "wrong": return wrong();
            case "can": return can(p, q);
            case "odds": return odds(p);
            case "mean": return mean(p);
            case "plan": return plan(p, q);
            case "ends": return in(p, 0, 1) ? p == 0 ? total(planned()) : fails(planned(), 0) : NONE;
            case "book": return book(p, q, r);
            case "looked": return looked();
            case "judge": return judge(p, q);
            case "image": return image();
            case "undo": return undo();
            case "act": return act(p, q, r);
            case "trace": return p >= 0 && p < ran.size() && p < 20 ? ran.get(p) : NONE;
            case "taken": return taken(p, q);
            case "count": return count(p);
            case "tape": return tape(p, q, r);
            case "item": return item(p, q, a[2]);
            case "read": return read(p, q);
            case "shift": return shift(p, q, r, s, t);
            default: throw new IllegalArgumentException(name);
        }
    }

    private int trader(int kind, int v) {
        if (!in(kind, 0, 6)) {
            return NONE;
        }
        if (!in(v, 0, 9)) {
            return BAD;
        }
        if (size() == 6) {
            return FULL;
        }
        Plain t = make(kind);
        t.i = size();
        t.v = v;
        t.ran = ran;
        now.traders.add(t);
        return t.i;
    }

    private int of(int trader, int what) {
        if (!is(trader) || !in(what, 0, 7)) {
            return -1000001;
        }
        Plain t = now.traders.get(trader);
        int[] answers = {t.kind(), t.v, t.purse, owes(now, trader), owed(now, trader),
            owed(now, trader) - owes(now, trader), fails(now, 1 << trader), what == 7 ? gift(trader) : 0};
        return answers[what];
    }

    private int pair(int one, int other) {
        return !is(one) || !is(other) ? NONE : one == other ? BAD : 0;
    }

    private int owe(int one, int other, int n) {
        if (pair(one, other) != 0) {
            return pair(one, other);
        }
        if (!in(n, 0, 9999)) {
            return BAD;
        }
        int was = now.traders.get(one).debts[other];
        now.traders.get(one).debts[other] = n;
        return was;
    }

    private int purse(int trader, int n) {
        if (!is(trader)) {
            return NONE;
        }
        if (!in(n, 0, 9999)) {
            return BAD;
        }
        int was = now.traders.get(trader).purse;
        now.traders.get(trader).purse = n;
        return was;
    }

    private int reads(int one, int other, int squeeze, int n) {
        if (pair(one, other) != 0) {
            return pair(one, other);
        }
        return in(squeeze, 0, 99) && in(n, 0, 60) ? readAs(one, other, squeeze, now.day + n) : BAD;
    }

    private int shake(int one, int other, int squeeze) {
        if (pair(one, other) != 0) {
            return pair(one, other);
        }
        if (!in(squeeze, 0, 99)) {
            return BAD;
        }
        int[] debts = now.traders.get(one).debts;
        debts[other] = Math.min(9999, debts[other] + readAs(one, other, squeeze, now.day));
        return debts[other];
    }

    private int between(int one, int other, int what) {
        if (!in(what, 0, 1)) {
            return NONE;
        }
        if (pair(one, other) != 0) {
            return pair(one, other);
        }
        Set<Integer> sums = new HashSet<>();
        for (int squeeze = 0; squeeze < 100; squeeze++) {
            sums.add(readAs(one, other, squeeze, now.day));
        }
        sums.remove(0);
        return what == 0 ? now.traders.get(one).debts[other] : sums.size();
    }

    private int squeezes(int one, int other, int sum, int what) {
        if (!in(what, 0, 1)) {
            return NONE;
        }
        if (pair(one, other) != 0) {
            return pair(one, other);
        }
        if (!in(sum, 1, 999)) {
            return BAD;
        }
        List<Integer> found = new ArrayList<>();
        for (int squeeze = 0; squeeze < 100; squeeze++) {
            if (readAs(one, other, squeeze, now.day) == sum) {
                found.add(squeeze);
            }
        }
        return what == 0 ? found.size() : found.isEmpty() ? LACKING : found.get(0);
    }

    private int row(int trader, int part, int n) {
        if (!is(trader) || !in(part, 0, 3)) {
            return NONE;
        }
        if (!in(n, 0, 9)) {
            return BAD;
        }
        if (!(now.traders.get(trader) instanceof Told)) {
            return STATE;
        }
        int was = now.traders.get(trader).row[part];
        now.traders.get(trader).row[part] = n;
        return was;
    }

    private int feed(int sign) {
        if (!in(sign, 0, 127)) {
            return BAD;
        }
        if (text.length() == 100) {
            return FULL;
        }
        text += (char) sign;
        return text.length();
    }

    private int exchange() {
        if (exchanges == 6) {
            return FULL;
        }
        int fault = fault(text);
        String was = text;
        text = "";
        if (fault >= 0) {
            return -10 - fault;
        }
        now.holds = was;
        return exchanges++;
    }

    private int told(int what) {
        switch (what) {
            case 0: return now.day;
            case 1: return bind();
            case 2: return fails(now, 0);
            case 3: return rescue();
            case 4: return size() - mostSets(0, new ArrayList<>());
            case 5: return ring(new ArrayList<>());
            case 6: return offset();
            case 7: return total(now);
            default: return NONE;
        }
    }

    private int pass(int n) {
        if (!in(n, 0, 60)) {
            return BAD;
        }
        if (now.day + n > 9999) {
            return STATE;
        }
        now.day += n;
        return now.day;
    }

    private int see(int one, int other, int squeeze, int n, int sum) {
        if (one == -1) {
            now.seen.clear();
            return 0;
        }
        if (pair(one, other) != 0) {
            return pair(one, other);
        }
        if (!in(squeeze, 0, 99) || !in(n, 0, 20) || !in(sum, 0, 999)) {
            return BAD;
        }
        if (now.seen.size() == 5) {
            return FULL;
        }
        now.seen.add(new int[] {one, other, squeeze, n, sum});
        return now.seen.size();
    }

    private int wrong() {
        for (int[] r : now.seen) {
            if (!so(r)) {
                return now.seen.indexOf(r);
            }
        }
        return LACKING;
    }

    private int can(int trader, int what) {
        if (!is(trader) || !in(what, 0, 1)) {
            return NONE;
        }
        Plain t = now.traders.get(trader);
        int was = t.v;
        List<Integer> found = new ArrayList<>();
        for (t.v = 0; t.v <= 9; t.v++) {
            if (now.seen.stream().allMatch(r -> r[0] != trader || so(r))) {
                found.add(t.v);
            }
        }
        t.v = was;
        return what == 0 ? found.size() : found.isEmpty() ? LACKING : found.get(0);
    }

    private long odds(int part) {
        if (!in(part, 0, 1) || size() == 0) {
            return NO;
        }
        int alone = 0;
        for (int one = 0; one < size(); one++) {
            alone += Integer.bitCount(fails(now, 1 << one)) == 1 ? 1 : 0;
        }
        return lowest(alone, size(), part);
    }

    private long mean(int part) {
        if (!in(part, 0, 1) || size() == 0) {
            return NO;
        }
        int sum = 0;
        for (Plain t : now.traders) {
            sum += t.purse;
        }
        return lowest(sum, size(), part);
    }

    private int plan(int what, int trader) {
        if (what == -1) {
            now.plan.clear();
            return 0;
        }
        if (!in(what, 0, 3) || !(what == 0 || is(trader))) {
            return NONE;
        }
        if (now.plan.size() == 10) {
            return FULL;
        }
        now.plan.add(new int[] {what, trader});
        return now.plan.size();
    }

    private int book(int one, int other, int debt) {
        if (one == -1) {
            now.book.clear();
            return 0;
        }
        if (pair(one, other) != 0) {
            return pair(one, other);
        }
        if (!in(debt, 0, 9999)) {
            return BAD;
        }
        if (now.book.size() == 8) {
            return FULL;
        }
        now.book.add(new int[] {one, other, debt});
        return now.book.size();
    }

    private int looked() {
        for (int[] r : now.book) {
            if (now.traders.get(r[0]).debts[r[1]] != r[2]) {
                return now.book.indexOf(r);
            }
        }
        return LACKING;
    }

    private int judge(int tape, int i) {
        if (!in(tape, 0, 5)) {
            return NONE;
        }
        if (tapes[tape] != null && !(tapes[tape] instanceof int[])) {
            return CAST;
        }
        if (size() == 0) {
            return LACKING;
        }
        if (tapes[tape] == null || i < 0) {
            return 100;
        }
        int[] told = (int[]) tapes[tape];
        for (long place = i; place < (long) i + size(); place++) {
            int one = (int) (place - i);
            if (place >= told.length) {
                return 100 + one;
            }
            if (told[(int) place] != owed(now, one) - owes(now, one)) {
                return one;
            }
        }
        return LACKING;
    }

    private int image() {
        image = now.copy(ran);
        return size();
    }

    private int undo() {
        if (image == null) {
            return STATE;
        }
        now = image.copy(ran);
        return size();
    }

    private int act(int trader, int act, int x) {
        ran.clear();
        if (!is(trader) || !in(act, 0, 2)) {
            return 0;
        }
        Plain t = now.traders.get(trader);
        return act == 0 ? t.grips(x) : act == 1 ? t.lets(x) : t.tells(x);
    }

    private int taken(int trader, int k) {
        if (!in(k, 0, 6)) {
            return BAD;
        }
        if (!is(trader)) {
            return NOTHING;
        }
        return KINDS[k].isInstance(now.traders.get(trader)) ? now.traders.get(trader).kind() : CAST;
    }

    private int count(int what) {
        int[] counts = {size(), exchanges, now.seen.size(), now.plan.size(), now.book.size(), text.length(), ran.size()};
        return in(what, 0, 6) ? counts[what] : BAD;
    }

    private int tape(int tape, int sort, int n) {
        if (!in(tape, 0, 5)) {
            return NONE;
        }
        if (sort == -1) {
            tapes[tape] = null;
            return 1;
        }
        if (!in(sort, 0, 4) || n > 60) {
            return BAD;
        }
        if (n < 0) {
            return SIZE;
        }
        tapes[tape] = sort == 0 ? new byte[n] : sort == 1 ? new short[n] : sort == 2 ? new int[n]
            : sort == 3 ? new long[n] : new boolean[n];
        return 1;
    }

    private int item(int tape, int i, long v) {
        if (!in(tape, 0, 5)) {
            return NONE;
        }
        Object row = tapes[tape];
        if (row == null) {
            return NOTHING;
        }
        if (!in(i, 0, java.lang.reflect.Array.getLength(row) - 1)) {
            return PLACE;
        }
        if (row instanceof byte[]) {
            ((byte[]) row)[i] = (byte) v;
        } else if (row instanceof short[]) {
            ((short[]) row)[i] = (short) v;
        } else if (row instanceof int[]) {
            ((int[]) row)[i] = (int) v;
        } else if (row instanceof long[]) {
            ((long[]) row)[i] = v;
        } else {
            ((boolean[]) row)[i] = v != 0;
        }
        return 1;
    }

    private long read(int tape, int i) {
        if (!in(tape, 0, 5) || tapes[tape] == null || !in(i, 0, java.lang.reflect.Array.getLength(tapes[tape]) - 1)) {
            return NO;
        }
        Object row = tapes[tape];
        return row instanceof boolean[] ? ((boolean[]) row)[i] ? 1 : 0 : java.lang.reflect.Array.getLong(row, i);
    }

    private int shift(int tape, int i, int other, int j, int n) {
        if (!in(tape, 0, 5) || !in(other, 0, 5)) {
            return NONE;
        }
        if (tapes[tape] == null || tapes[other] == null) {
            return NOTHING;
        }
        if (tapes[tape].getClass() != tapes[other].getClass()) {
            return CAST;
        }
        try {
            System.arraycopy(tapes[tape], i, tapes[other], j, n);
        } catch (IndexOutOfBoundsException e) {
            return PLACE;
        }
        return n;
    }
}
