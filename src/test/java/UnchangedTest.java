import java.util.ArrayList;
import java.util.Arrays;
import java.util.HashSet;
import java.util.List;
import java.util.Set;

/**
 * "What is answered so changes nothing; what is asked changes nothing": after refused calls, and after
 * asking ones, all that can be asked of an object is as it is of one that was made without them.
 */
public final class UnchangedTest extends Given {
    private static final int CALLS = 512;

    private UnchangedTest() {
    }

    private record Call(String name, long... numbers) {
        @Override
        public String toString() {
            return name + Arrays.toString(numbers);
        }
    }

    /** A situation: its name, and the calls that lead to it. */
    private record Case(String name, List<Call> calls) {
        HandshakeBinds made() {
            HandshakeBinds x = new HandshakeBinds();
            for (Call call : calls) {
                answer(x, call);
            }
            return x;
        }
    }

    public static void main(String[] args) {
        List<Case> cases = List.of(empty(), few(), many(), full(), lastDays(), lowest());
        List<Call> tried = refusable();
        int refused = 0;
        for (Case c : cases) {
            Due.about("what is refused changes nothing, " + c.name);
            List<Call> refusals = new ArrayList<>();
            for (Call call : tried) {
                if (isRefused(c.made(), call)) {
                    refusals.add(call);
                }
            }
            refused += refusals.size();
            leavesAll(c, refusals, LOOKS);
            Due.about("what is asked changes nothing, " + c.name);
            leavesAll(c, asking(), LOOKS);
            Due.about("an act that there is not leaves all but the trace, " + c.name);
            leavesAll(c, noActs(), without("trace", new Call("count", 6)));
            Due.about("a fault leaves all but the text, " + c.name);
            faultLeaves(c);
        }
        everyRefusalWasMet(cases, tried);
        System.out.println(refused + " refused calls");
        Due.finish();
    }

    // ---- comparing

    private static long answer(HandshakeBinds x, Call call) {
        return Calls.ask(x, call.name, call.numbers);
    }

    private static boolean isRefused(HandshakeBinds x, Call call) {
        long answer = answer(x, call);
        // All other answers of these calls are 0 at least, but for a fault's, which empties THE TEXT.
        return answer < 0 && !(call.name.equals("exchange") && answer <= -10);
    }

    /** Each of the calls alone, on an object of its own: nothing that is looked at then is otherwise. */
    private static void leavesAll(Case c, List<Call> calls, List<Call> looks) {
        Due.due("calls above " + CALLS, Math.max(c.calls.size() + 1 + looks.size(), CALLS), CALLS);
        long[] due = lookedAt(c.made(), looks);
        for (Call call : calls) {
            HandshakeBinds touched = c.made();
            answer(touched, call);
            long[] got = lookedAt(touched, looks);
            for (int i = 0; i < due.length; i++) {
                if (got[i] != due[i]) {
                    Due.due("behind " + call + " " + looks.get(i), got[i], due[i]);
                    break;
                }
            }
            Due.due(0, 0);
        }
    }

    private static long[] lookedAt(HandshakeBinds x, List<Call> looks) {
        long[] answers = new long[looks.size()];
        for (int i = 0; i < answers.length; i++) {
            answers[i] = answer(x, looks.get(i));
        }
        return answers;
    }

    // ---- what is looked at

    /** All that can be asked; then what tells by changing: the rows, THE TEXT, the image. */
    private static final List<Call> LOOKS = looks();

    private static List<Call> looks() {
        List<Call> looks = new ArrayList<>();
        for (int what = 0; what <= 6; what++) {
            looks.add(new Call("count", what));
        }
        for (int i = 0; i < 13; i++) {
            looks.add(new Call("trace", i));
        }
        look(looks);
        for (int one = 0; one <= 5; one++) {
            for (int what = 0; what <= 1; what++) {
                looks.add(new Call("can", one, what));
            }
            looks.add(new Call("of", one, 1));
            looks.add(new Call("of", one, 6));
            looks.add(new Call("of", one, 7));
            looks.add(new Call("between", one, (one + 1) % 6, 1));
            looks.add(new Call("reads", one, (one + 1) % 6, 47, 3));
        }
        for (int tape = 0; tape <= 5; tape++) {
            looks.add(new Call("judge", tape, 0));
            for (int i = 0; i <= 2; i++) {
                looks.add(new Call("read", tape, i));
            }
        }
        for (int part = 0; part <= 1; part++) {
            looks.add(new Call("odds", part));
            looks.add(new Call("mean", part));
        }
        looks.add(new Call("exchange"));
        looks.add(new Call("count", 1));
        looks.add(new Call("told", 1));
        looks.add(new Call("undo"));
        for (int what = 0; what <= 4; what++) {
            looks.add(new Call("count", what));
        }
        look(looks);
        return looks;
    }

    private static void look(List<Call> looks) {
        for (int what = 0; what <= 7; what++) {
            looks.add(new Call("told", what));
        }
        for (int one = 0; one <= 5; one++) {
            looks.add(new Call("of", one, 0));
            looks.add(new Call("of", one, 2));
            for (int other = 0; other <= 5; other++) {
                if (other != one && (other < 4 || one < 4)) {
                    looks.add(new Call("between", one, other, 0));
                }
            }
        }
        for (int part = 0; part < 4; part++) {
            looks.add(new Call("row", 0, part, 0));
        }
        looks.add(new Call("wrong"));
        looks.add(new Call("ends", 0));
        looks.add(new Call("ends", 1));
        looks.add(new Call("looked"));
    }

    private static List<Call> without(String name, Call other) {
        List<Call> looks = new ArrayList<>();
        for (Call look : LOOKS) {
            if (!look.name.equals(name) && !look.toString().equals(other.toString())) {
                looks.add(look);
            }
        }
        return looks;
    }

    // ---- situations

    private static Case at(String name, Object... parts) {
        List<Call> calls = new ArrayList<>();
        for (Object part : parts) {
            String[] words = ((String) part).split(" ", 2);
            if (words[0].equals("text")) {
                for (char sign : words[1].toCharArray()) {
                    calls.add(new Call("feed", sign));
                }
                continue;
            }
            String[] numbers = words.length == 1 ? new String[0] : words[1].split(" ");
            long[] all = new long[numbers.length];
            for (int i = 0; i < all.length; i++) {
                all[i] = Long.parseLong(numbers[i]);
            }
            calls.add(new Call(words[0], all));
        }
        return new Case(name, calls);
    }

    private static Case more(Case c, int times, Object... parts) {
        List<Call> calls = new ArrayList<>(c.calls);
        for (int i = 0; i < times; i++) {
            calls.addAll(at("", parts).calls);
        }
        return new Case(c.name, calls);
    }

    private static Case empty() {
        return at("a new object");
    }

    /** Two traders, half a text, no image. */
    private static Case few() {
        return at("few things", "trader 6 4", "trader 0 5", "owe 0 1 70", "owe 1 0 150", "purse 1 33",
            "row 0 1 8", "pass 5", "see 0 1 50 0 33", "plan 1 1", "book 0 1 70", "act 0 2 5",
            "tape 0 2 3", "item 0 0 80", "item 0 1 -80", "tape 1 0 2", "item 1 1 7", "text firm 5 q");
    }

    /** Something of all that there is, an image, and more behind it. */
    private static Case many() {
        return at("many things", "trader 6 4", "trader 4 5", "trader 2 6", "trader 5 3", "owe 0 1 170",
            "owe 1 2 160", "owe 2 0 30", "owe 3 1 101", "owe 1 3 40", "purse 3 77", "row 0 2 6", "row 0 0 3",
            "text firm 9 p=0;bind 7", "exchange", "pass 13", "see 0 1 50 1 35", "see 1 0 40 0 50", "plan 1 0",
            "plan 3 2", "book 0 1 170", "book 1 0 3", "image", "trader 1 2", "owe 0 1 60", "owe 4 0 9",
            "purse 2 5000", "row 0 2 9", "text limp 3 q>0", "exchange", "pass 9", "see 2 1 33 9 25", "plan 0 0",
            "plan 2 1", "book 4 0 9", "act 3 2 17", "tape 0 2 5", "item 0 0 -21", "item 0 1 4", "tape 1 1 3",
            "item 1 2 70000", "tape 2 3 2", "item 2 1 99999999999", "tape 3 4 1", "item 3 0 1", "tape 4 0 60",
            "text limp 12 !(v");
    }

    private static Case full() {
        Case c = at("full stores", "trader 6 4", "trader 4 5", "trader 2 6", "trader 5 3", "trader 3 2", "trader 1 9",
            "owe 0 5 9999", "owe 5 0 9999", "owe 2 3 150", "purse 4 9999", "image", "act 0 2 3", "tape 5 2 6");
        c = more(c, 5, "see 0 1 50 0 25");
        c = more(c, 4, "plan 1 2");
        c = more(c, 6, "plan 0 0");
        c = more(c, 8, "book 2 3 150");
        c = more(c, 6, "text bind 1", "exchange");
        return more(c, 10, "text firm 1 p=0");
    }

    private static Case lastDays() {
        Case c = more(at("the last days", "trader 6 4", "trader 4 5", "row 0 3 9", "see 1 0 30 20 40"), 166, "pass 60");
        return more(c, 1, "pass 37", "image", "pass 1", "text b");
    }

    /** All that can be 0 is. */
    private static Case lowest() {
        return at("all at the least", "trader 6 0", "trader 0 0", "purse 0 0", "purse 1 0", "text bind 0", "exchange",
            "see 0 1 0 0 0", "plan 1 0", "book 0 1 0", "image", "tape 0 2 0", "tape 1 0 0", "tape 2 3 1");
    }

    // ---- the calls

    private static final long[] WHO = {-2, -1, 0, 1, 5, 6, MOST};
    private static final long[] TAPES = {-1, 0, 1, 5, 6};

    private static long[] values(long... all) {
        return all;
    }

    private static void cross(List<Call> to, String name, long[]... values) {
        int many = 1;
        for (long[] some : values) {
            many *= some.length;
        }
        for (int i = 0; i < many; i++) {
            long[] numbers = new long[values.length];
            int rest = i;
            for (int k = 0; k < numbers.length; k++) {
                numbers[k] = values[k][rest % values[k].length];
                rest /= values[k].length;
            }
            to.add(new Call(name, numbers));
        }
    }

    /** Of these the refused ones are tried, in each situation others. */
    private static List<Call> refusable() {
        List<Call> calls = new ArrayList<>();
        long[] some = {-2, 0, 1, 6};
        cross(calls, "trader", values(-1, 0, 6, 7, LEAST), values(-1, 0, 9, 10, MOST));
        cross(calls, "owe", WHO, WHO, values(-1, 0, 77, 9999, 10000, LEAST));
        cross(calls, "purse", WHO, values(-1, 0, 77, 9999, 10000, MOST));
        cross(calls, "shake", WHO, WHO, values(-1, 0, 77, 99, 100));
        cross(calls, "row", WHO, values(-1, 0, 3, 4), values(-1, 0, 9, 10));
        cross(calls, "feed", values(-1, 0, 'p', 127, 128, LEAST, MOST));
        cross(calls, "exchange");
        cross(calls, "pass", values(-1, 0, 1, 60, 61, LEAST, MOST));
        cross(calls, "see", some, some, values(-1, 50, 100), values(-1, 0, 20, 21), values(-1, 50, 1000));
        cross(calls, "plan", values(-2, 0, 1, 2, 3, 4, MOST), WHO);
        cross(calls, "book", values(-2, 0, 1, 5, 6), WHO, values(-1, 0, 77, 9999, 10000));
        cross(calls, "undo");
        cross(calls, "tape", TAPES, values(-2, 0, 2, 4, 5), values(-1, 0, 60, 61, LEAST, MOST));
        cross(calls, "item", TAPES, values(-1, 0, 59, 60, LEAST, MOST), values(0, 9));
        cross(calls, "shift", TAPES, values(-1, 0, 60), TAPES, values(0, 61), values(-1, 1, 61, MOST));
        return calls;
    }

    /** Allowed or not: they change nothing. */
    private static List<Call> asking() {
        List<Call> calls = new ArrayList<>();
        cross(calls, "of", WHO, values(-1, 0, 1, 2, 3, 4, 5, 6, 7, 8));
        cross(calls, "reads", WHO, values(-1, 0, 1, 2, 6), values(-1, 50, 99, 100), values(-1, 0, 60, 61));
        cross(calls, "between", WHO, WHO, values(-1, 0, 1, 2));
        cross(calls, "squeezes", values(0, 1, 6), values(0, 1, 6), values(0, 1, 50, 999, 1000), values(-1, 0, 1, 2));
        cross(calls, "told", values(-1, 0, 1, 2, 3, 4, 5, 6, 7, 8));
        cross(calls, "wrong");
        cross(calls, "can", WHO, values(-1, 0, 1, 2));
        cross(calls, "odds", values(-1, 0, 1, 2));
        cross(calls, "mean", values(-1, 0, 1, 2));
        cross(calls, "ends", values(-1, 0, 1, 2));
        cross(calls, "looked");
        cross(calls, "judge", TAPES, values(-1, 0, 1, 59, 60, LEAST, MOST));
        cross(calls, "trace", values(-1, 0, 1, 11, 12, 19, 20, MOST));
        cross(calls, "taken", WHO, values(-1, 0, 1, 6, 7));
        cross(calls, "count", values(-1, 0, 1, 2, 3, 4, 5, 6, 7));
        cross(calls, "read", TAPES, values(-1, 0, 59, 60, LEAST, MOST));
        return calls;
    }

    private static List<Call> noActs() {
        List<Call> calls = new ArrayList<>();
        cross(calls, "act", values(-1, 6, LEAST, MOST), values(-1, 0, 2, 3), values(9));
        cross(calls, "act", values(0), values(-1, 3, LEAST, MOST), values(9));
        return calls;
    }

    /** Behind a fault: THE TEXT is empty, and nothing else is otherwise; no six exchanges here. */
    private static void faultLeaves(Case c) {
        if (c.made().count(1) == 6) {
            return;
        }
        HandshakeBinds touched = c.made();
        HandshakeBinds other = c.made();
        for (String text : new String[] {"", "bind 9;?", "firm 77 p=0;limp 1 q", "?"}) {
            for (int i = 0; i < text.length(); i++) {
                touched.feed(text.charAt(i));
            }
            Due.due(touched.exchange() <= -10 ? 1 : 0, 1);
            Due.due(touched.count(5), 0);
        }
        for (Call look : without("exchange", new Call("count", 5))) {
            Due.due(look.toString(), answer(touched, look), answer(other, look));
        }
    }

    /** Or the test would be about fewer refusals than it seems. */
    private static void everyRefusalWasMet(List<Case> cases, List<Call> tried) {
        Due.about("refusals that were met");
        String[] known = {"trader -1", "trader -2", "trader -4", "owe -1", "owe -2", "purse -1", "purse -2",
            "shake -1", "shake -2", "row -1", "row -2", "row -3", "feed -2", "feed -4", "exchange -4", "pass -2",
            "pass -3", "see -1", "see -2", "see -4", "plan -1", "plan -4", "book -1", "book -2", "book -4", "undo -3",
            "tape -1", "tape -2", "tape -14", "item -1", "item -11", "item -13", "shift -1", "shift -11",
            "shift -12", "shift -13"};
        Set<String> met = new HashSet<>();
        for (Case c : cases) {
            for (Call call : tried) {
                long answer = answer(c.made(), call);
                if (answer < 0) {
                    met.add(call.name + " " + answer);
                }
            }
        }
        for (String refusal : known) {
            Due.due(refusal + " met", met.contains(refusal) ? 1 : 0, 1);
        }
    }
}
