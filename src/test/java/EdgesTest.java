import java.util.Arrays;
import java.util.function.Supplier;

/**
 * Promise by promise: of each number the least and the greatest that are allowed and the next ones
 * that are not, and in which order the refusals are looked at.
 */
public final class EdgesTest extends Given {
    private EdgesTest() {
    }

    public static void main(String[] args) {
        edgesOfTraders();
        edgesOfDebts();
        edgesOfTextsAndDays();
        edgesOfRows();
        edgesOfTapes();
        ordersOfTraders();
        ordersOfDebts();
        ordersOfStores();
        ordersOfTapes();
        Due.finish();
    }

    // ---- the tables' words

    private static boolean isRefusal(String call, long answer) {
        if (call.equals("act")) {
            return answer == 0;
        }
        for (long refusal : new long[] {NONE, BAD, STATE, FULL, NOTHING, CAST, PLACE, SIZE, NONE_BELOW_ZERO, NO}) {
            if (answer == refusal) {
                return true;
            }
        }
        return false;
    }

    private static long[] numbers(long... all) {
        return all;
    }

    private static void ask(Supplier<HandshakeBinds> made, String call, long[] numbers, long due) {
        Due.due(call + Arrays.toString(numbers), Calls.ask(made.get(), call, numbers), due);
    }

    private static void allowed(Supplier<HandshakeBinds> made, String call, long[] numbers) {
        long answer = Calls.ask(made.get(), call, numbers);
        Due.due(call + Arrays.toString(numbers) + " is refused: " + answer, isRefusal(call, answer) ? 1 : 0, 0);
    }

    /** The number at a place of a call may be from low to high; another one has its refusal. */
    private static void edge(Supplier<HandshakeBinds> made, String call, long[] good, int place,
            long low, long high, long refusal) {
        below(made, call, good, place, low, refusal);
        above(made, call, good, place, high, refusal);
    }

    private static void below(Supplier<HandshakeBinds> made, String call, long[] good, int place, long low,
            long refusal) {
        long[] numbers = good.clone();
        numbers[place] = low;
        allowed(made, call, numbers);
        // -1 stands for "none then" in some calls.
        boolean empties = place == 0 && (call.equals("see") || call.equals("plan") || call.equals("book"))
            || place == 1 && call.equals("tape");
        for (long n : new long[] {low - 1, low - 2, low - 100, low - 256, LEAST + 1, LEAST}) {
            numbers[place] = n;
            if (n == -1 && empties) {
                ask(made, call, numbers, call.equals("tape") ? 1 : 0);
            } else {
                ask(made, call, numbers, refusal);
            }
        }
    }

    private static void above(Supplier<HandshakeBinds> made, String call, long[] good, int place, long high,
            long refusal) {
        long[] numbers = good.clone();
        numbers[place] = high;
        allowed(made, call, numbers);
        for (long n : new long[] {high + 1, high + 2, high + 100, high + 256, MOST - 1, MOST}) {
            numbers[place] = n;
            ask(made, call, numbers, refusal);
        }
    }

    /** Who one and another one are: two traders there are, of three, and not the same. */
    private static void pairEdges(Supplier<HandshakeBinds> made, String call, long[] good) {
        long[] numbers = good.clone();
        numbers[1] = 1;
        edge(made, call, numbers, 0, 0, 2, NONE);
        numbers[0] = 1;
        numbers[1] = 0;
        edge(made, call, numbers, 1, 0, 2, NONE);
        for (long one = 0; one <= 2; one++) {
            numbers[0] = one;
            numbers[1] = one;
            ask(made, call, numbers, BAD);
        }
    }

    /** The number at a place becomes so: this is refused, and how. SAME: as the one ahead. */
    private record Wrong(int place, long number, long refusal) {
    }

    private static final long SAME = Long.MAX_VALUE;

    private static Wrong wrong(int place, long number, long refusal) {
        return new Wrong(place, number, refusal);
    }

    /** However many of them are wrong at once: the answer is that of the first told. */
    private static void order(Supplier<HandshakeBinds> made, String call, long[] good, long otherwise, Wrong... wrongs) {
        for (int set = 1; set < 1 << wrongs.length; set++) {
            long[] numbers = good.clone();
            boolean apart = true;
            long due = otherwise;
            int touched = 0;
            for (int i = wrongs.length - 1; i >= 0; i--) {
                if ((set >> i & 1) != 0) {
                    apart &= (touched >> wrongs[i].place & 1) == 0;
                    touched |= 1 << wrongs[i].place;
                    numbers[wrongs[i].place] = wrongs[i].number;
                    due = wrongs[i].refusal;
                }
            }
            for (int i = 1; i < numbers.length; i++) {
                if (numbers[i] == SAME) {
                    numbers[i] = numbers[i - 1];
                }
            }
            if (apart) {
                ask(made, call, numbers, due);
            }
        }
        ask(made, call, good, otherwise);
    }

    // ---- what the calls are asked of

    /** A told one, a trader, a broker; ints on the tapes 0 and 1, longs on 2, nothing on the others. */
    private static HandshakeBinds three() {
        HandshakeBinds x = new HandshakeBinds();
        x.trader(6, 4);
        x.trader(0, 5);
        x.trader(1, 6);
        x.owe(1, 0, 30);
        x.tape(0, 2, 10);
        x.tape(1, 2, 10);
        x.tape(2, 3, 10);
        return x;
    }

    private static HandshakeBinds threeTold() {
        return with(6, 6, 6);
    }

    private static HandshakeBinds fullOfTraders() {
        return with(6, 5, 4, 3, 2, 1);
    }

    private static HandshakeBinds full() {
        HandshakeBinds x = three();
        for (int i = 0; i < 5; i++) {
            x.see(0, 1, 0, 0, 0);
        }
        for (int i = 0; i < 10; i++) {
            x.plan(0, 0);
        }
        for (int i = 0; i < 8; i++) {
            x.book(0, 1, 0);
        }
        for (int i = 0; i < 6; i++) {
            exchange(x, "bind 1");
        }
        for (int i = 0; i < 100; i++) {
            x.feed('x');
        }
        return x;
    }

    private static HandshakeBinds lastDay() {
        HandshakeBinds x = three();
        passTo(x, 9999);
        return x;
    }

    private static HandshakeBinds acted() {
        HandshakeBinds x = three();
        x.act(0, 2, 5);
        return x;
    }

    private static HandshakeBinds ofTapes() {
        HandshakeBinds x = three();
        for (int tape = 0; tape <= 5; tape++) {
            x.tape(tape, 2, 10);
        }
        return x;
    }

    // ---- edges

    private static void edgesOfTraders() {
        Due.about("promise 2, the edges");
        edge(HandshakeBinds::new, "trader", numbers(0, 0), 0, 0, 6, NONE);
        edge(HandshakeBinds::new, "trader", numbers(0, 0), 1, 0, 9, BAD);
        Due.about("promise 3, the edges");
        edge(EdgesTest::three, "of", numbers(0, 0), 0, 0, 2, NONE_BELOW_ZERO);
        edge(EdgesTest::three, "of", numbers(0, 0), 1, 0, 7, NONE_BELOW_ZERO);
        edge(EdgesTest::fullOfTraders, "of", numbers(0, 0), 0, 0, 5, NONE_BELOW_ZERO);
        Due.about("promise 5, the edges");
        edge(EdgesTest::three, "purse", numbers(0, 7), 0, 0, 2, NONE);
        edge(EdgesTest::three, "purse", numbers(0, 7), 1, 0, 9999, BAD);
        edge(EdgesTest::fullOfTraders, "purse", numbers(0, 7), 0, 0, 5, NONE);
        Due.about("promise 10, the edges");
        edge(EdgesTest::threeTold, "row", numbers(0, 0, 7), 0, 0, 2, NONE);
        edge(EdgesTest::threeTold, "row", numbers(2, 0, 7), 1, 0, 3, NONE);
        edge(EdgesTest::threeTold, "row", numbers(2, 3, 7), 2, 0, 9, BAD);
        Due.about("promise 17, the edges");
        edge(EdgesTest::three, "can", numbers(0, 0), 0, 0, 2, NONE);
        edge(EdgesTest::three, "can", numbers(0, 0), 1, 0, 1, NONE);
        Due.about("promises 18 and 19, the edges");
        edge(EdgesTest::three, "odds", numbers(0), 0, 0, 1, NO);
        edge(EdgesTest::three, "mean", numbers(0), 0, 0, 1, NO);
        Due.about("promise 27, the edges");
        edge(EdgesTest::three, "act", numbers(0, 0, 40), 0, 0, 2, 0);
        edge(EdgesTest::three, "act", numbers(0, 0, 40), 1, 0, 2, 0);
        Due.about("promise 28, the edges");
        edge(EdgesTest::acted, "trace", numbers(0), 0, 0, 11, NONE);
        Due.about("promise 29, the edges");
        edge(EdgesTest::three, "taken", numbers(0, 0), 0, 0, 2, NOTHING);
        edge(EdgesTest::three, "taken", numbers(0, 0), 1, 0, 6, BAD);
        Due.about("promise 30, the edges");
        edge(EdgesTest::three, "count", numbers(0), 0, 0, 6, BAD);
    }

    private static void edgesOfDebts() {
        Due.about("promise 4, the edges");
        pairEdges(EdgesTest::three, "owe", numbers(0, 1, 5));
        edge(EdgesTest::three, "owe", numbers(0, 1, 5), 2, 0, 9999, BAD);
        Due.about("promise 6, the edges");
        pairEdges(EdgesTest::three, "reads", numbers(0, 1, 50, 0));
        edge(EdgesTest::three, "reads", numbers(0, 1, 50, 0), 2, 0, 99, BAD);
        edge(EdgesTest::three, "reads", numbers(0, 1, 50, 0), 3, 0, 60, BAD);
        Due.about("promise 7, the edges");
        pairEdges(EdgesTest::three, "shake", numbers(0, 1, 50));
        edge(EdgesTest::three, "shake", numbers(0, 1, 50), 2, 0, 99, BAD);
        Due.about("promise 8, the edges");
        pairEdges(EdgesTest::three, "between", numbers(0, 1, 0));
        pairEdges(EdgesTest::three, "between", numbers(0, 1, 1));
        edge(EdgesTest::three, "between", numbers(0, 1, 0), 2, 0, 1, NONE);
        Due.about("promise 9, the edges");
        pairEdges(EdgesTest::three, "squeezes", numbers(0, 1, 40, 0));
        pairEdges(EdgesTest::three, "squeezes", numbers(0, 1, 40, 1));
        edge(EdgesTest::three, "squeezes", numbers(0, 1, 40, 0), 2, 1, 999, BAD);
        edge(EdgesTest::three, "squeezes", numbers(0, 1, 40, 0), 3, 0, 1, NONE);
    }

    private static void edgesOfTextsAndDays() {
        Due.about("promise 11, the edges");
        edge(HandshakeBinds::new, "feed", numbers(0), 0, 0, 127, BAD);
        Due.about("promise 13, the edges");
        edge(EdgesTest::three, "told", numbers(0), 0, 0, 7, NONE);
        Due.about("promise 14, the edges");
        edge(HandshakeBinds::new, "pass", numbers(0), 0, 0, 60, BAD);
        for (int n = 0; n <= 60; n++) {
            HandshakeBinds x = new HandshakeBinds();
            passTo(x, 9999 - n);
            due(x.told(0), 9999 - n);
            if (n < 60) {
                due(x.pass(n + 1), STATE);
                due(x.pass(60), STATE);
            }
            due(x.told(0), 9999 - n);
            due(x.pass(61), BAD);
            due(x.pass(n), 9999);
        }
    }

    private static void edgesOfRows() {
        Due.about("promise 15, the edges");
        pairEdges(EdgesTest::three, "see", numbers(0, 1, 50, 0, 50));
        edge(EdgesTest::three, "see", numbers(0, 1, 50, 0, 50), 2, 0, 99, BAD);
        edge(EdgesTest::three, "see", numbers(0, 1, 50, 0, 50), 3, 0, 20, BAD);
        edge(EdgesTest::three, "see", numbers(0, 1, 50, 0, 50), 4, 0, 999, BAD);
        Due.about("promise 20, the edges");
        edge(EdgesTest::three, "plan", numbers(0, 1), 0, 0, 3, NONE);
        for (int what = 1; what <= 3; what++) {
            edge(EdgesTest::three, "plan", numbers(what, 1), 1, 0, 2, NONE);
            ask(HandshakeBinds::new, "plan", numbers(what, 0), NONE);
        }
        for (long trader : new long[] {-1, 0, 2, 3, 6, LEAST, MOST}) {
            ask(EdgesTest::three, "plan", numbers(0, trader), 1);
            ask(EdgesTest::three, "plan", numbers(-1, trader), 0);
            ask(EdgesTest::full, "plan", numbers(-1, trader), 0);
        }
        Due.about("promise 21, the edges");
        edge(EdgesTest::three, "ends", numbers(0), 0, 0, 1, NONE);
        Due.about("promise 22, the edges");
        pairEdges(EdgesTest::three, "book", numbers(0, 1, 50));
        edge(EdgesTest::three, "book", numbers(0, 1, 50), 2, 0, 9999, BAD);
        Due.about("promises 15 and 22, one -1: none then, whatever the rest is");
        for (long n : new long[] {-1, 0, 2, 3, 99, 100, 1000, 10000, LEAST, MOST}) {
            ask(EdgesTest::three, "see", numbers(-1, n, n, n, n), 0);
            ask(EdgesTest::full, "see", numbers(-1, n, n, n, n), 0);
            ask(HandshakeBinds::new, "see", numbers(-1, n, n, n, n), 0);
            ask(EdgesTest::three, "book", numbers(-1, n, n), 0);
            ask(EdgesTest::full, "book", numbers(-1, n, n), 0);
            ask(HandshakeBinds::new, "book", numbers(-1, n, n), 0);
        }
    }

    private static void edgesOfTapes() {
        Due.about("promise 24, the edges");
        edge(HandshakeBinds::new, "judge", numbers(0, 0), 0, 0, 5, NONE);
        Due.about("promise 31, the edges");
        edge(EdgesTest::three, "tape", numbers(0, 0, 1), 0, 0, 5, NONE);
        edge(EdgesTest::three, "tape", numbers(0, 0, 1), 1, 0, 4, BAD);
        below(EdgesTest::three, "tape", numbers(0, 0, 1), 2, 0, SIZE);
        above(EdgesTest::three, "tape", numbers(0, 0, 1), 2, 60, BAD);
        Due.about("promise 32, the edges");
        edge(EdgesTest::three, "item", numbers(0, 0, 7), 1, 0, 9, PLACE);
        below(EdgesTest::three, "item", numbers(0, 0, 7), 0, 0, NONE);
        above(EdgesTest::ofTapes, "item", numbers(0, 0, 7), 0, 5, NONE);
        Due.about("promise 33, the edges");
        edge(EdgesTest::three, "read", numbers(0, 0), 1, 0, 9, NO);
        edge(EdgesTest::ofTapes, "read", numbers(0, 0), 0, 0, 5, NO);
        Due.about("promise 34, the edges");
        edge(EdgesTest::ofTapes, "shift", numbers(0, 0, 0, 0, 1), 0, 0, 5, NONE);
        edge(EdgesTest::ofTapes, "shift", numbers(0, 0, 0, 0, 1), 2, 0, 5, NONE);
        for (long other = 0; other <= 1; other++) {
            // 10 items: 4 from 6 on are the last 4; none are from 10 on.
            edge(EdgesTest::three, "shift", numbers(0, 0, other, 0, 4), 1, 0, 6, PLACE);
            edge(EdgesTest::three, "shift", numbers(0, 0, other, 0, 4), 3, 0, 6, PLACE);
            edge(EdgesTest::three, "shift", numbers(0, 0, other, 0, 4), 4, 0, 10, PLACE);
            edge(EdgesTest::three, "shift", numbers(0, 3, other, 0, 4), 4, 0, 7, PLACE);
            edge(EdgesTest::three, "shift", numbers(0, 0, other, 3, 4), 4, 0, 7, PLACE);
            edge(EdgesTest::three, "shift", numbers(0, 0, other, 0, 0), 1, 0, 10, PLACE);
            edge(EdgesTest::three, "shift", numbers(0, 0, other, 0, 0), 3, 0, 10, PLACE);
        }
    }

    // ---- orders

    private static void ordersOfTraders() {
        Due.about("promise 2, the order");
        order(EdgesTest::fullOfTraders, "trader", numbers(0, 0), FULL, wrong(0, 7, NONE), wrong(1, 10, BAD));
        order(EdgesTest::three, "trader", numbers(0, 0), 3, wrong(0, -1, NONE), wrong(1, -1, BAD));
        Due.about("promise 3, the order");
        order(EdgesTest::three, "of", numbers(1, 1), 5,
            wrong(0, 3, NONE_BELOW_ZERO), wrong(1, 8, NONE_BELOW_ZERO));
        Due.about("promise 5, the order");
        order(EdgesTest::three, "purse", numbers(1, 1), 100, wrong(0, 3, NONE), wrong(1, 10000, BAD));
        Due.about("promise 10, the order");
        order(EdgesTest::three, "row", numbers(1, 0, 0), STATE,
            wrong(0, 3, NONE), wrong(1, 4, NONE), wrong(2, 10, BAD));
        order(EdgesTest::three, "row", numbers(0, 0, 0), 0,
            wrong(0, 3, NONE), wrong(1, -1, NONE), wrong(2, -1, BAD), wrong(0, 2, STATE));
        Due.about("promise 17, the order");
        order(EdgesTest::three, "can", numbers(0, 0), 10, wrong(0, 3, NONE), wrong(1, 2, NONE));
        Due.about("promise 29, the order");
        order(EdgesTest::three, "taken", numbers(1, 0), 0, wrong(1, 7, BAD), wrong(0, 3, NOTHING), wrong(1, 1, CAST));
        order(EdgesTest::three, "taken", numbers(0, 3), 6, wrong(1, -1, BAD), wrong(0, -1, NOTHING), wrong(1, 2, CAST));
        order(HandshakeBinds::new, "taken", numbers(0, 0), NOTHING, wrong(1, 7, BAD));
    }

    private static void ordersOfDebts() {
        Due.about("promise 4, the order");
        order(EdgesTest::three, "owe", numbers(1, 0, 5), 30,
            wrong(0, 3, NONE), wrong(1, 3, NONE), wrong(1, SAME, BAD), wrong(2, 10000, BAD));
        Due.about("promise 6, the order");
        order(EdgesTest::three, "reads", numbers(1, 0, 50, 0), 50, wrong(0, -1, NONE), wrong(1, -1, NONE),
            wrong(1, 1, BAD), wrong(2, 100, BAD), wrong(3, 61, BAD));
        Due.about("promise 7, the order");
        order(EdgesTest::three, "shake", numbers(1, 0, 50), 80,
            wrong(0, 3, NONE), wrong(1, 3, NONE), wrong(1, 1, BAD), wrong(2, 100, BAD));
        Due.about("promise 8, the order");
        order(EdgesTest::three, "between", numbers(1, 0, 0), 30,
            wrong(0, 3, NONE), wrong(1, 3, NONE), wrong(2, 2, NONE), wrong(1, 1, BAD));
        Due.about("promise 9, the order");
        order(EdgesTest::three, "squeezes", numbers(1, 0, 50, 1), 50, wrong(0, 3, NONE), wrong(1, 3, NONE),
            wrong(3, 2, NONE), wrong(1, 1, BAD), wrong(2, 1000, BAD));
        // Two like ones that there are not: there are not.
        for (String call : new String[] {"owe", "reads", "shake", "between", "squeezes", "see", "book"}) {
            ask(EdgesTest::three, call, numbers(3, 3, 40, 0, 0), NONE);
            ask(EdgesTest::three, call, numbers(MOST, MOST, 40, 0, 0), NONE);
            ask(EdgesTest::three, call, numbers(0, 3, -1, -1, -1), NONE);
            ask(HandshakeBinds::new, call, numbers(0, 0, 40, 0, 0), NONE);
            ask(HandshakeBinds::new, call, numbers(0, 1, 40, 0, 0), NONE);
        }
    }

    private static void ordersOfStores() {
        Due.about("promise 11, the order");
        order(EdgesTest::full, "feed", numbers(1), FULL, wrong(0, 128, BAD));
        order(EdgesTest::full, "feed", numbers(1), FULL, wrong(0, -1, BAD));
        Due.about("promise 12, the order");
        ask(EdgesTest::full, "exchange", numbers(), FULL);
        Due.about("promise 14, the order");
        order(EdgesTest::lastDay, "pass", numbers(1), STATE, wrong(0, 61, BAD));
        order(EdgesTest::lastDay, "pass", numbers(60), STATE, wrong(0, -1, BAD));
        Due.about("promise 15, the order");
        order(EdgesTest::full, "see", numbers(0, 1, 0, 0, 0), FULL, wrong(0, 3, NONE), wrong(1, 3, NONE),
            wrong(1, 0, BAD), wrong(2, 100, BAD), wrong(3, 21, BAD), wrong(4, 1000, BAD));
        order(EdgesTest::three, "see", numbers(0, 1, 0, 0, 0), 1, wrong(0, -2, NONE), wrong(1, -1, NONE),
            wrong(1, 0, BAD), wrong(2, -1, BAD), wrong(3, -1, BAD), wrong(4, -1, BAD));
        Due.about("promise 20, the order");
        order(EdgesTest::full, "plan", numbers(1, 1), FULL, wrong(0, 4, NONE), wrong(1, 3, NONE));
        order(EdgesTest::full, "plan", numbers(0, 9), FULL, wrong(0, -2, NONE));
        Due.about("promise 22, the order");
        order(EdgesTest::full, "book", numbers(0, 1, 0), FULL,
            wrong(0, 3, NONE), wrong(1, 3, NONE), wrong(1, 0, BAD), wrong(2, 10000, BAD));
    }

    private static void ordersOfTapes() {
        Due.about("promise 24, the order");
        order(EdgesTest::three, "judge", numbers(0, 0), 0, wrong(0, 6, NONE), wrong(0, 2, CAST));
        ask(EdgesTest::three, "judge", numbers(6, -1), NONE);
        ask(EdgesTest::three, "judge", numbers(2, -1), CAST);
        ask(EdgesTest::three, "judge", numbers(2, MOST), CAST);
        Due.about("promise 31, the order");
        order(EdgesTest::three, "tape", numbers(0, 0, 1), 1,
            wrong(0, 6, NONE), wrong(1, 5, BAD), wrong(2, 61, BAD), wrong(2, -1, SIZE));
        order(EdgesTest::three, "tape", numbers(5, 4, 60), 1,
            wrong(0, -1, NONE), wrong(1, -2, BAD), wrong(2, MOST, BAD), wrong(2, LEAST, SIZE));
        ask(EdgesTest::three, "tape", numbers(6, -1, 0), NONE);
        Due.about("promise 32, the order");
        order(EdgesTest::three, "item", numbers(0, 0, 7), 1,
            wrong(0, 6, NONE), wrong(0, 3, NOTHING), wrong(1, 10, PLACE));
        Due.about("promise 33, the order");
        order(EdgesTest::three, "read", numbers(0, 0), 0, wrong(0, 6, NO), wrong(0, 3, NO), wrong(1, 10, NO));
        Due.about("promise 34, the order");
        order(EdgesTest::three, "shift", numbers(0, 0, 1, 0, 4), 4, wrong(0, 6, NONE), wrong(2, 6, NONE),
            wrong(0, 3, NOTHING), wrong(2, 3, NOTHING), wrong(2, 2, CAST), wrong(1, 7, PLACE), wrong(3, -1, PLACE),
            wrong(4, 11, PLACE));
        order(EdgesTest::three, "shift", numbers(2, 0, 2, 0, 4), 4, wrong(0, -1, NONE), wrong(2, -1, NONE),
            wrong(0, 4, NOTHING), wrong(2, 5, NOTHING), wrong(0, 1, CAST), wrong(1, MOST, PLACE),
            wrong(3, MOST, PLACE), wrong(4, -1, PLACE));
    }
}
