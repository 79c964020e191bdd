/** Calls told by name and numbers. */
final class Calls {
    private Calls() {
    }

    static long ask(HandshakeBinds x, String name, long... a) {
        int p = a.length > 0 ? (int) a[0] : 0;
        int q = a.length > 1 ? (int) a[1] : 0;
        int r = a.length > 2 ? (int) a[2] : 0;
        int s = a.length > 3 ? (int) a[3] : 0;
        int t = a.length > 4 ? (int) a[4] : 0;
        switch (name) {
            case "trader": return x.trader(p, q);
            case "of": return x.of(p, q);
            case "owe": return x.owe(p, q, r);
            case "purse": return x.purse(p, q);
            case "reads": return x.reads(p, q, r, s);
            case "shake": return x.shake(p, q, r);
            case "between": return x.between(p, q, r);
            case "squeezes": return x.squeezes(p, q, r, s);
            case "row": return x.row(p, q, r);
            case "feed": return x.feed(p);
            case "exchange": return x.exchange();
            case "told": return x.told(p);
            case "pass": return x.pass(p);
            case "see": return x.see(p, q, r, s, t);
            case "wrong": return x.wrong();
            case "can": return x.can(p, q);
            case "odds": return x.odds(p);
            case "mean": return x.mean(p);
            case "plan": return x.plan(p, q);
            case "ends": return x.ends(p);
            case "book": return x.book(p, q, r);
            case "looked": return x.looked();
            case "judge": return x.judge(p, q);
            case "image": return x.image();
            case "undo": return x.undo();
            case "act": return x.act(p, q, r);
            case "trace": return x.trace(p);
            case "taken": return x.taken(p, q);
            case "count": return x.count(p);
            case "tape": return x.tape(p, q, r);
            case "item": return x.item(p, q, a[2]);
            case "read": return x.read(p, q);
            case "shift": return x.shift(p, q, r, s, t);
            default: throw new IllegalArgumentException(name);
        }
    }
}
