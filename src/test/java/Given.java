/** What the tests by hand share: the refusals' numbers, and objects made ready. */
abstract class Given {
    static final int NONE = -1, BAD = -2, STATE = -3, FULL = -4;
    static final int LACKING = -5, NOTHING = -11, CAST = -12, PLACE = -13, SIZE = -14;
    static final int NONE_BELOW_ZERO = -1000001;
    static final long NO = Long.MIN_VALUE;
    static final int LEAST = Integer.MIN_VALUE, MOST = Integer.MAX_VALUE;

    static void due(long got, long want) {
        Due.due(got, want);
    }

    /** Traders of the kinds given, with v 0. */
    static HandshakeBinds with(int... kinds) {
        HandshakeBinds x = new HandshakeBinds();
        for (int kind : kinds) {
            x.trader(kind, 0);
        }
        return x;
    }

    static HandshakeBinds traders(int n) {
        return with(new int[n]);
    }

    /** Of a kind and a v the one, number 0; a plain one to shake hands with is number 1. */
    static HandshakeBinds pair(int kind, int v) {
        HandshakeBinds x = new HandshakeBinds();
        x.trader(kind, v);
        x.trader(0, 0);
        return x;
    }

    static int exchange(HandshakeBinds x, String text) {
        for (int i = 0; i < text.length(); i++) {
            x.feed(text.charAt(i));
        }
        return x.exchange();
    }

    /** The fault of a text; -1 if it is an exchange. */
    static int faultOf(String text) {
        int answer = exchange(new HandshakeBinds(), text);
        return answer <= -10 ? -10 - answer : -1;
    }

    static String repeat(String part, int n) {
        return part.repeat(n);
    }

    /** What a squeeze of 0 to 1 is read as under a text, by a trader of v 3. */
    static int readUnder(String text, int squeeze, int days) {
        HandshakeBinds x = pair(0, 3);
        due(exchange(x, text), 0);
        return x.reads(0, 1, squeeze, days);
    }

    static void passTo(HandshakeBinds x, int day) {
        for (int left = day - x.told(0); left > 0; left -= 60) {
            x.pass(Math.min(left, 60));
        }
    }
}
