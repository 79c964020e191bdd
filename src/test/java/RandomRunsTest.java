import java.util.ArrayList;
import java.util.Arrays;
import java.util.List;
import java.util.Random;

/** Random runs of calls, each answer against the model's. The seeds are fixed: every run is the same. */
public final class RandomRunsTest {
    private static final int RUNS = 1500;
    private static final int CALLS = 512;
    private static final int[] ODD = {-1, -2, 6, 7, 8, 99, 100, 1000, 9999, 10000, Integer.MIN_VALUE, Integer.MAX_VALUE};

    private final Random random;
    private final HandshakeBinds x = new HandshakeBinds();
    private final Model model = new Model();
    private final List<String> log = new ArrayList<>();
    private final boolean odd;
    private final int most;

    private RandomRunsTest(int seed) {
        random = new Random(seed);
        odd = seed % 3 == 0;
        most = seed % 4 == 1 ? 60 : seed % 4 == 2 ? 300 : 9999;
    }

    public static void main(String[] args) {
        Due.about("random runs");
        for (int seed = 0; seed < RUNS; seed++) {
            if (!new RandomRunsTest(seed).run(seed)) {
                break;
            }
        }
        texts();
        Due.finish();
    }

    /** Faults of many texts, which runs of calls alone come to seldom. */
    private static void texts() {
        Due.about("random texts");
        for (int seed = 0; seed < 30000; seed++) {
            RandomRunsTest one = new RandomRunsTest(seed);
            String text = one.text();
            HandshakeBinds x = new HandshakeBinds();
            Model model = new Model();
            for (int i = 0; i < text.length(); i++) {
                x.feed(text.charAt(i));
                model.call("feed", text.charAt(i));
            }
            Due.due("exchange() of \"" + text + "\"", x.exchange(), model.call("exchange"));
        }
    }

    private boolean run(int seed) {
        int calls = 0;
        int entered = random.nextInt(8);
        for (int i = 0; i < entered && i < 6; i++) {
            if (!same("trader", number(7), number(10))) {
                return told(seed);
            }
            calls++;
        }
        while (calls < CALLS) {
            if (calls < CALLS - 110 && random.nextInt(25) == 0) {
                String text = text();
                for (int i = 0; i < text.length(); i++) {
                    calls++;
                    if (!same("feed", text.charAt(i))) {
                        return told(seed);
                    }
                }
                calls++;
                if (!same("exchange")) {
                    return told(seed);
                }
            }
            calls++;
            if (!next()) {
                return told(seed);
            }
        }
        return true;
    }

    private boolean told(int seed) {
        System.out.println("seed " + seed + ": " + String.join("; ", log));
        return false;
    }

    private boolean same(String name, long... a) {
        log.add(name + Arrays.toString(a));
        long want = model.call(name, a);
        long got = Calls.ask(x, name, a);
        Due.due(log.get(log.size() - 1), got, want);
        return got == want;
    }

    private int number(int below) {
        if (odd && random.nextInt(12) == 0) {
            return ODD[random.nextInt(ODD.length)];
        }
        int n = random.nextInt(30);
        return n == 0 ? below : n == 1 ? -1 : random.nextInt(below);
    }

    private int who() {
        int size = x.count(0);
        return number(size == 0 ? 6 : size);
    }

    private int debt() {
        return random.nextInt(3) == 0 ? number(10000) : number(most + 1);
    }

    private int squeeze() {
        return number(100);
    }

    private int what(int below) {
        return number(below);
    }

    private boolean next() {
        switch (random.nextInt(36)) {
            case 0: return same("trader", number(7), number(10));
            case 1: return same("of", who(), what(8));
            case 2: case 3: return same("owe", who(), who(), debt());
            case 4: return same("purse", who(), debt());
            case 5: return same("reads", who(), who(), squeeze(), number(61));
            case 6: return same("shake", who(), who(), squeeze());
            case 7: return same("between", who(), who(), what(2));
            case 8: return same("squeezes", who(), who(), sum(), what(2));
            case 9: return same("row", who(), number(4), number(10));
            case 10: return random.nextInt(4) == 0 ? same("feed", number(128)) : same("exchange");
            case 11: case 12: return same("told", what(8));
            case 13: return same("pass", number(61));
            case 14: return see();
            case 15: return same("wrong");
            case 16: return same("can", who(), what(2));
            case 17: return same("odds", what(2));
            case 18: return same("mean", what(2));
            case 19: return same("plan", random.nextInt(12) == 0 ? -1 : what(4), who());
            case 20: return same("ends", what(2));
            case 21: return book();
            case 22: return same("looked");
            case 23: return judge();
            case 24: return random.nextInt(4) != 0 ? same("told", what(8)) : same("image");
            case 25: return random.nextInt(4) != 0 ? same("of", who(), what(8)) : same("undo");
            case 26: return same("act", who(), what(3), random.nextInt(3) == 0 ? random.nextInt() : number(20));
            case 27: return same("trace", number(13));
            case 28: return same("taken", who(), what(7));
            case 29: return same("count", what(7));
            case 30: return same("tape", what(6), number(7) - 1, number(61));
            case 31: case 32: return same("item", what(6), number(20), item());
            case 33: return same("read", what(6), number(20));
            default: return same("shift", what(6), number(20), what(6), number(20), number(12));
        }
    }

    private int sum() {
        return random.nextInt(4) == 0 ? number(1000) : number(130);
    }

    private long item() {
        return random.nextInt(3) == 0 ? random.nextLong() : random.nextLong() >> random.nextInt(64);
    }

    /** Half of what is seen is as it is read now, or the rows would all be false. */
    private boolean see() {
        int one = random.nextInt(15) == 0 ? -1 : who();
        int other = who();
        int squeeze = squeeze();
        int days = number(21);
        int sum = random.nextInt(4) == 0 ? sum() : (int) model.call("reads", one, other, squeeze, days);
        return same("see", one, other, squeeze, days, sum);
    }

    private boolean book() {
        int one = random.nextInt(15) == 0 ? -1 : who();
        int other = who();
        int debt = random.nextInt(4) == 0 ? debt() : (int) model.call("between", one, other, 0);
        return same("book", one, other, debt);
    }

    /** A tape that tells the balances, but for a random place now and then. */
    private boolean judge() {
        if (random.nextInt(3) == 0) {
            return same("judge", what(6), number(20));
        }
        int from = random.nextInt(5);
        int size = x.count(0);
        if (!same("tape", 0, 2, from + size - random.nextInt(2) * random.nextInt(3))) {
            return false;
        }
        for (int i = 0; i < size; i++) {
            long balance = random.nextInt(9) == 0 ? random.nextInt(9) : model.call("of", i, 5);
            if (!same("item", 0, from + i, balance)) {
                return false;
            }
        }
        return same("judge", 0, from);
    }

    private String text() {
        int clauses = random.nextInt(8) == 0 ? 9 + random.nextInt(3) : 1 + random.nextInt(4);
        StringBuilder s = new StringBuilder();
        for (int i = 0; i < clauses; i++) {
            s.append(i == 0 ? "" : ";");
            if (clauses > 8 || random.nextInt(6) == 0) {
                s.append("bind ").append(digits(random.nextInt(30)));
            } else {
                s.append(random.nextBoolean() ? "firm " : "limp ").append(digits(random.nextInt(100)));
                s.append(' ').append(condition(random.nextInt(8) == 0 ? 5 : 2));
            }
        }
        for (int i = random.nextInt(3) == 0 ? 1 + random.nextInt(2) : 0; i > 0 && s.length() > 0; i--) {
            int at = random.nextInt(s.length());
            char sign = "firmlipbnd pqkvs<=>0123456789!&|();x".charAt(random.nextInt(35));
            switch (random.nextInt(4)) {
                case 0: s.setCharAt(at, sign); break;
                case 1: s.insert(at, sign); break;
                case 2: s.deleteCharAt(at); break;
                default: s.setLength(at);
            }
        }
        return s.length() > 100 ? s.substring(0, 100) : s.toString();
    }

    private String digits(int n) {
        return n < 10 && random.nextInt(4) == 0 ? "0" + n : "" + n;
    }

    private String condition(int deep) {
        String s = factor(deep);
        while (random.nextInt(3) == 0) {
            s += (random.nextBoolean() ? "&" : "|") + factor(deep);
        }
        return s;
    }

    private String factor(int deep) {
        int n = random.nextInt(4);
        if (deep > 0 && (n == 0 || deep > 3)) {
            return "!" + factor(deep - 1);
        }
        if (deep > 0 && n == 1) {
            return "(" + condition(deep - 1) + ")";
        }
        char letter = "pqkvsd".charAt(random.nextInt(6));
        return "" + letter + "<=>".charAt(random.nextInt(3)) + digits(random.nextInt(20) == 0 ? 99 : random.nextInt(10));
    }
}
