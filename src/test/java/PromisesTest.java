/** Each promise by hand: ordinary inputs, the edges that the document names, wrong inputs. */
public final class PromisesTest extends Given {
    private PromisesTest() {
    }

    public static void main(String[] args) {
        constants();
        newObject();
        trader();
        of();
        failsAndGifts();
        owe();
        purse();
        readsByKind();
        readsByClause();
        readsRefused();
        shake();
        between();
        squeezes();
        row();
        feed();
        exchangeTaken();
        exchangeFaults();
        toldPlain();
        rescue();
        payments();
        ring();
        offset();
        pass();
        see();
        wrong();
        can();
        odds();
        mean();
        plan();
        ends();
        book();
        looked();
        judge();
        imageAndUndo();
        imageLeavesTheRest();
        actsOfUpperKinds();
        actsOfLowerKinds();
        trace();
        taken();
        count();
        tape();
        item();
        read();
        shift();
        Due.finish();
    }

    private static void constants() {
        Due.about("the constants");
        due(HandshakeBinds.NONE, -1);
        due(HandshakeBinds.BAD, -2);
        due(HandshakeBinds.STATE, -3);
        due(HandshakeBinds.FULL, -4);
        due(HandshakeBinds.NO, Long.MIN_VALUE);
    }

    // ---- traders, exchanges, shakes

    private static void newObject() {
        Due.about("promise 1");
        HandshakeBinds x = new HandshakeBinds();
        for (int what = 0; what <= 6; what++) {
            due(x.count(what), 0);
        }
        due(x.told(0), 0);
        due(x.told(1), 5);
        for (int what = 2; what <= 7; what++) {
            due(x.told(what), 0);
        }
        due(x.of(0, 0), NONE_BELOW_ZERO);
        due(x.undo(), STATE);
        due(x.trace(0), NONE);
        for (int tape = 0; tape <= 5; tape++) {
            due(x.read(tape, 0), NO);
            due(x.item(tape, 0, 0), NOTHING);
        }
        HandshakeBinds other = new HandshakeBinds();
        other.trader(0, 1);
        due(x.count(0), 0);
    }

    private static void trader() {
        Due.about("promise 2");
        HandshakeBinds x = new HandshakeBinds();
        due(x.trader(-1, 0), NONE);
        due(x.trader(7, 0), NONE);
        due(x.trader(7, 10), NONE);
        due(x.trader(0, -1), BAD);
        due(x.trader(6, 10), BAD);
        due(x.trader(LEAST, MOST), NONE);
        due(x.count(0), 0);
        due(x.trader(0, 9), 0);
        due(x.trader(6, 0), 1);
        due(x.trader(3, 4), 2);
        due(x.trader(3, 4), 3);
        due(x.trader(5, 1), 4);
        due(x.trader(1, 2), 5);
        due(x.trader(0, 0), FULL);
        due(x.trader(7, 0), NONE);
        due(x.trader(0, 10), BAD);
        due(x.count(0), 6);
        due(x.of(5, 0), 1);
        due(x.of(5, 1), 2);
        due(x.of(5, 2), 100);
        due(x.of(5, 3), 0);
        due(x.of(5, 4), 0);
    }

    private static void of() {
        Due.about("promise 3");
        HandshakeBinds x = new HandshakeBinds();
        x.trader(4, 7);
        x.trader(0, 0);
        x.trader(6, 9);
        x.owe(0, 1, 30);
        x.owe(0, 2, 12);
        x.owe(1, 0, 5);
        x.owe(2, 0, 9999);
        due(x.of(0, 0), 4);
        due(x.of(0, 1), 7);
        due(x.of(0, 2), 100);
        due(x.of(0, 3), 42);
        due(x.of(0, 4), 10004);
        due(x.of(0, 5), 9962);
        due(x.of(1, 3), 5);
        due(x.of(1, 4), 30);
        due(x.of(1, 5), 25);
        due(x.of(2, 5), 12 - 9999);
        due(x.of(2, 0), 6);
        due(x.of(2, 1), 9);
        for (int what : new int[] {-1, 8, LEAST, MOST}) {
            due(x.of(0, what), NONE_BELOW_ZERO);
        }
        for (int one : new int[] {-1, 3, 6, LEAST, MOST}) {
            due(x.of(one, 0), NONE_BELOW_ZERO);
        }
    }

    private static void failsAndGifts() {
        Due.about("promise 3, IF one fails and GIFT");
        HandshakeBinds x = traders(4);
        x.owe(0, 1, 150);
        x.owe(1, 2, 200);
        x.owe(2, 3, 100);
        // 0 lacks 50; 1 has 100 and 150 of 0 that fails; 2 has just 100.
        due(x.told(2), 1 + 2);
        due(x.of(0, 6), 3);
        due(x.of(1, 6), 3);
        due(x.of(2, 6), 7);
        due(x.of(3, 6), 11);
        due(x.of(0, 7), 50);
        // 0 fails whatever 1 has: 1 owes 200 and has 100.
        due(x.of(1, 7), 100);
        due(x.of(2, 7), 0);
        x.owe(0, 1, 200);
        x.purse(0, 200);
        due(x.told(2), 0);
        due(x.of(0, 6), 3);
        due(x.of(0, 7), 0);
        x.purse(0, 199);
        due(x.told(2), 3);
        due(x.of(0, 7), 1);

        // A ring: the gift that keeps one keeps the next too, whose payment comes back.
        x = traders(2);
        x.purse(0, 0);
        x.purse(1, 0);
        x.owe(0, 1, 500);
        x.owe(1, 0, 500);
        due(x.told(2), 0);
        x.owe(0, 1, 510);
        due(x.told(2), 3);
        due(x.of(0, 7), 10);
        due(x.of(1, 7), 500);
        due(x.of(0, 6), 3);

        // With 0 saved, the others of a ring pay too, the last of them to 0.
        x = traders(3);
        for (int one = 0; one < 3; one++) {
            x.purse(one, 0);
            x.owe(one, (one + 1) % 3, 500);
        }
        x.owe(0, 1, 510);
        due(x.told(2), 7);
        due(x.of(0, 7), 10);
        due(x.of(1, 7), 500);

        // All whom one saves pay it, each for itself.
        x = traders(3);
        for (int one = 0; one < 3; one++) {
            x.purse(one, 0);
        }
        x.owe(1, 0, 255);
        x.owe(1, 2, 255);
        x.owe(0, 1, 250);
        x.owe(2, 1, 250);
        due(x.told(2), 7);
        due(x.of(1, 7), 10);
        due(x.of(0, 7), 250);

        x = traders(3);
        x.purse(0, 0);
        x.owe(0, 1, 9999);
        due(x.of(0, 7), 9999);
        x.owe(0, 2, 1);
        due(x.of(0, 7), LACKING);
        x.purse(0, 1);
        due(x.of(0, 7), 9999);
    }

    private static void owe() {
        Due.about("promise 4");
        HandshakeBinds x = traders(3);
        due(x.owe(0, 1, 40), 0);
        due(x.owe(0, 1, 0), 40);
        due(x.owe(0, 1, 9999), 0);
        due(x.owe(1, 0, 7), 0);
        due(x.owe(0, 1, 10000), BAD);
        due(x.owe(0, 1, -1), BAD);
        due(x.owe(2, 2, 5), BAD);
        due(x.owe(0, 3, 5), NONE);
        due(x.owe(3, 0, 5), NONE);
        due(x.owe(-1, 0, 5), NONE);
        due(x.owe(0, -1, 5), NONE);
        due(x.owe(5, 5, -1), NONE);
        due(x.owe(0, 1, 3), 9999);
        due(x.between(1, 0, 0), 7);
        due(x.between(0, 1, 0), 3);
        due(x.between(2, 0, 0), 0);
    }

    private static void purse() {
        Due.about("promise 5");
        HandshakeBinds x = traders(2);
        due(x.purse(0, 0), 100);
        due(x.purse(0, 9999), 0);
        due(x.purse(0, 10000), BAD);
        due(x.purse(0, -1), BAD);
        due(x.purse(2, 5), NONE);
        due(x.purse(-1, -1), NONE);
        due(x.of(0, 2), 9999);
        due(x.of(1, 2), 100);
    }

    private static void readsByKind() {
        Due.about("promise 6, the kinds");
        HandshakeBinds x = new HandshakeBinds();
        x.trader(0, 9);
        x.trader(1, 4);
        x.trader(2, 9);
        x.trader(3, 9);
        x.trader(4, 5);
        x.trader(5, 3);
        due(x.reads(0, 1, 50, 0), 50);
        due(x.reads(0, 1, 5, 0), 5);
        due(x.reads(0, 1, 4, 0), 0);
        due(x.reads(1, 0, 50, 0), 58);
        due(x.reads(1, 0, 0, 0), 8);
        due(x.reads(2, 0, 59, 0), 59 - 9);
        due(x.reads(2, 0, 60, 0), 50);
        due(x.reads(2, 0, 5, 0), 5);
        due(x.reads(3, 0, 11, 0), 5);
        due(x.reads(3, 0, 9, 0), 0);
        due(x.reads(3, 0, 99, 0), 49);
        due(x.reads(4, 0, 50, 0), 60);
        due(x.reads(4, 0, 50, 5), 60);
        due(x.reads(4, 0, 50, 6), 0);
        due(x.reads(4, 0, 50, 13), 0);
        due(x.reads(4, 0, 50, 14), 60);
        due(x.reads(5, 0, 59, 0), 59 - 9 - 3);
        due(x.reads(5, 0, 9, 0), 5);
        due(x.reads(5, 0, 8, 0), 0);
        x.pass(6);
        due(x.reads(4, 0, 50, 0), 0);
        due(x.reads(4, 0, 50, 1), 60);

        exchange(x, "bind 0");
        due(x.reads(4, 0, 50, 0), 0);
        due(x.reads(4, 0, 0, 1), 10);

        x = with(0, 6);
        x.row(1, 2, 8);
        due(x.reads(1, 0, 10, 2), 13);
        x = with(6, 0);
        x.row(0, 0, 9);
        x.row(0, 3, 2);
        due(x.reads(0, 1, 10, 0), 14);
        due(x.reads(0, 1, 10, 1), 5);
        due(x.reads(0, 1, 9, 1), 0);
        due(x.reads(0, 1, 9, 3), 6);
        due(x.reads(0, 1, 9, 4), 13);
        due(x.reads(0, 1, 9, 60), 13);
        x.pass(3);
        due(x.reads(0, 1, 9, 0), 6);
    }

    private static void readsByClause() {
        Due.about("promise 6, the clauses");
        due(readUnder("firm 20 p=0", 50, 0), 70);
        due(readUnder("firm 20 p=1", 50, 0), 50);
        due(readUnder("limp 20 q=1", 50, 0), 30);
        due(readUnder("firm 20 q>0;limp 5 q<2", 50, 0), 65);
        due(readUnder("firm 99 k=0;firm 99 v=3;limp 1 v<3;limp 2 v>3", 50, 0), 248);
        due(readUnder("firm 10 s=4", 49, 0), 59);
        due(readUnder("firm 10 s=4", 50, 0), 50);
        due(readUnder("firm 10 s=0", 9, 0), 19);
        due(readUnder("firm 10 d=0", 20, 10), 30);
        due(readUnder("firm 10 d=0", 20, 9), 20);
        due(readUnder("firm 10 d>8", 20, 19), 30);
        due(readUnder("limp 99 p=0", 50, 0), 0);
        due(readUnder("bind 51", 50, 0), 0);
        due(readUnder("bind 50", 50, 0), 50);
        due(readUnder("bind 60;bind 0", 1, 0), 1);
        due(readUnder("bind 0;limp 9 p=0", 1, 0), 0);
        due(readUnder("bind 60;firm 20 p=0", 40, 0), 60);
        due(readUnder("bind 60;firm 20 p=0", 39, 0), 0);
        due(readUnder("firm 00 p=0", 39, 0), 39);
        due(readUnder("firm 07 p=00", 39, 0), 46);
        // & binds closer than |, on either side.
        due(readUnder("firm 1 p=0|p=1&p=2", 50, 0), 51);
        due(readUnder("firm 1 p=1&p=2|p=0", 50, 0), 51);
        due(readUnder("firm 1 (p=0|p=1)&p=2", 50, 0), 50);
        due(readUnder("firm 1 p=1|p=2|p=3|p=0", 50, 0), 51);
        due(readUnder("firm 1 p=0&p=0&p=0&p=1", 50, 0), 50);
        due(readUnder("firm 1 !p=1", 50, 0), 51);
        due(readUnder("firm 1 !p=0|p=0", 50, 0), 51);
        due(readUnder("firm 1 !(p=0|p=0)", 50, 0), 50);
        due(readUnder("firm 1 !!p=0", 50, 0), 51);
        due(readUnder("firm 1 !p=1&!q=0", 50, 0), 51);
        due(readUnder("firm 1 p=1|!p=0&q=1", 50, 0), 50);
        due(readUnder("firm 1 ((p=0)&(!(q=2)))", 50, 0), 51);

        HandshakeBinds all = with(0, 1, 4);
        exchange(all, "firm 1 p=0;firm 2 p=1;firm 4 p=2;firm 8 q=0;firm 16 q=1;firm 32 q=2;limp 3 k=4");
        due(all.reads(0, 1, 20, 0), 20 + 1 + 16);
        due(all.reads(1, 0, 20, 0), 20 + 2 + 8);
        due(all.reads(1, 2, 20, 0), 20 + 2 + 32);
        due(all.reads(2, 0, 20, 0), 20 + 4 + 8 - 3);

        // Ahead of gloves, a force below 0 is cut toward 0; the row may bring it back.
        HandshakeBinds x = with(6, 2);
        exchange(x, "limp 13 p<2;bind 0");
        x.row(0, 0, 9);
        due(x.reads(0, 1, 6, 0), 9 - 3);
        due(x.reads(0, 1, 5, 0), 9 - 4);
        due(x.reads(1, 0, 5, 0), 0);
        due(x.reads(1, 0, 25, 0), 10);
    }

    private static void readsRefused() {
        Due.about("promise 6, wrong inputs");
        HandshakeBinds x = traders(2);
        due(x.reads(0, 1, 0, 0), 0);
        due(x.reads(0, 1, 99, 60), 99);
        due(x.reads(0, 1, 100, 0), BAD);
        due(x.reads(0, 1, -1, 0), BAD);
        due(x.reads(0, 1, 0, -1), BAD);
        due(x.reads(0, 1, 0, 61), BAD);
        due(x.reads(1, 1, 50, 0), BAD);
        due(x.reads(2, 2, 100, 61), NONE);
        due(x.reads(0, 2, 50, 0), NONE);
        due(x.reads(-1, 1, 50, 0), NONE);
        due(x.reads(LEAST, MOST, LEAST, MOST), NONE);
        due(x.reads(0, 1, LEAST, MOST), BAD);
        for (int i = 0; i < 166; i++) {
            x.pass(60);
        }
        x.pass(39);
        due(x.told(0), 9999);
        exchange(x, "firm 1 d=9");
        due(x.reads(0, 1, 50, 0), 51);
        due(x.reads(0, 1, 50, 1), 50);
        due(x.reads(0, 1, 50, 60), 51);
    }

    private static void shake() {
        Due.about("promise 7");
        HandshakeBinds x = traders(2);
        due(x.shake(0, 1, 50), 50);
        due(x.shake(0, 1, 4), 50);
        due(x.shake(0, 1, 5), 55);
        due(x.between(1, 0, 0), 0);
        due(x.shake(0, 1, 100), BAD);
        due(x.shake(0, 1, -1), BAD);
        due(x.shake(1, 1, 5), BAD);
        due(x.shake(2, 0, 5), NONE);
        due(x.shake(0, -1, 5), NONE);
        due(x.shake(2, 2, 500), NONE);
        due(x.between(0, 1, 0), 55);
        x.owe(0, 1, 9990);
        due(x.shake(0, 1, 8), 9998);
        due(x.shake(0, 1, 9), 9999);
        due(x.shake(0, 1, 99), 9999);
        exchange(x, "firm 30 d=2;limp 9 p=0;bind 0");
        x.pass(2);
        due(x.shake(1, 0, 10), 40);
        due(x.shake(1, 0, 0), 70);
        x.owe(0, 1, 0);
        due(x.shake(0, 1, 10), 31);
        due(x.of(0, 2), 100);
    }

    private static void between() {
        Due.about("promise 8");
        HandshakeBinds x = with(0, 3, 4);
        x.owe(0, 1, 17);
        due(x.between(0, 1, 0), 17);
        due(x.between(1, 0, 0), 0);
        due(x.between(0, 1, 1), 95);
        due(x.between(1, 0, 1), 45);
        due(x.between(2, 0, 1), 95);
        x.pass(6);
        due(x.between(2, 0, 1), 0);
        exchange(x, "bind 0;firm 10 s=0;limp 10 s=1");
        // 0 .. 9 read as 10 .. 19, 10 .. 19 as 0 .. 9, of which 0 is not counted.
        due(x.between(0, 1, 1), 99);
        exchange(x, "bind 0;firm 10 s=0");
        due(x.between(0, 1, 1), 90);
        due(x.between(0, 0, 0), BAD);
        due(x.between(0, 0, 1), BAD);
        due(x.between(0, 0, 2), NONE);
        due(x.between(0, 1, -1), NONE);
        due(x.between(0, 3, 0), NONE);
        due(x.between(-1, -1, 0), NONE);
    }

    private static void squeezes() {
        Due.about("promise 9");
        HandshakeBinds x = with(0, 3);
        due(x.squeezes(0, 1, 50, 0), 1);
        due(x.squeezes(0, 1, 50, 1), 50);
        due(x.squeezes(0, 1, 99, 1), 99);
        due(x.squeezes(0, 1, 4, 0), 0);
        due(x.squeezes(0, 1, 4, 1), LACKING);
        due(x.squeezes(0, 1, 999, 0), 0);
        due(x.squeezes(1, 0, 20, 0), 2);
        due(x.squeezes(1, 0, 20, 1), 40);
        due(x.squeezes(0, 1, 0, 0), BAD);
        due(x.squeezes(0, 1, 1000, 0), BAD);
        due(x.squeezes(0, 0, 50, 0), BAD);
        due(x.squeezes(0, 1, 50, 2), NONE);
        due(x.squeezes(0, 1, 0, -1), NONE);
        due(x.squeezes(0, 2, 0, 0), NONE);
        due(x.squeezes(2, 2, 50, 0), NONE);
        x.trader(1, 3);
        exchange(x, "bind 0");
        due(x.squeezes(0, 1, 1, 0), 1);
        due(x.squeezes(0, 1, 1, 1), 1);
        due(x.squeezes(2, 1, 6, 0), 1);
        due(x.squeezes(2, 1, 6, 1), 0);
        due(x.between(2, 1, 1), 100);
        exchange(x, "firm 10 s=2&d=1");
        due(x.squeezes(0, 1, 30, 0), 1);
        x.pass(1);
        due(x.squeezes(0, 1, 30, 0), 2);
        due(x.squeezes(0, 1, 30, 1), 20);
        due(x.squeezes(0, 1, 20, 1), LACKING);
    }

    private static void row() {
        Due.about("promise 10");
        HandshakeBinds x = with(6, 3, 6);
        due(x.row(0, 0, 9), 0);
        due(x.row(0, 0, 1), 9);
        due(x.row(0, 3, 5), 0);
        due(x.row(2, 3, 6), 0);
        due(x.row(0, 3, 0), 5);
        due(x.row(2, 3, 0), 6);
        due(x.row(0, 4, 0), NONE);
        due(x.row(0, -1, 10), NONE);
        due(x.row(3, 0, 0), NONE);
        due(x.row(-1, 0, 0), NONE);
        due(x.row(0, 0, 10), BAD);
        due(x.row(0, 0, -1), BAD);
        due(x.row(1, 0, 10), BAD);
        due(x.row(1, 4, 1), NONE);
        due(x.row(1, 0, 5), STATE);
        due(x.row(0, 0, 0), 1);
    }

    private static void feed() {
        Due.about("promise 11");
        HandshakeBinds x = new HandshakeBinds();
        due(x.feed(-1), BAD);
        due(x.feed(128), BAD);
        due(x.feed(LEAST), BAD);
        due(x.feed(0), 1);
        due(x.feed(127), 2);
        due(x.exchange(), -10);
        due(x.count(5), 0);
        for (int i = 1; i <= 100; i++) {
            due(x.feed('f'), i);
        }
        due(x.feed('f'), FULL);
        due(x.feed(128), BAD);
        due(x.count(5), 100);
        due(x.exchange(), -11);
        due(x.feed('f'), 1);
    }

    private static void exchangeTaken() {
        Due.about("promise 12, what holds");
        HandshakeBinds x = traders(2);
        due(exchange(x, "bind 9"), 0);
        due(x.told(1), 9);
        due(x.count(5), 0);
        due(exchange(x, "bind 10;firm 1 p=0"), 1);
        due(x.told(1), 10);
        due(exchange(x, "bind 11;firm x"), -10 - 13);
        due(x.told(1), 10);
        due(x.count(1), 2);
        due(x.count(5), 0);
        due(x.reads(0, 1, 20, 0), 21);
        due(exchange(x, "firm 3 p=0"), 2);
        due(x.told(1), 5);
        due(x.reads(0, 1, 20, 0), 23);
        due(exchange(x, "limp 3 p=0"), 3);
        due(exchange(x, "limp 4 p=0"), 4);
        due(exchange(x, "limp 5 p=0"), 5);
        due(x.reads(0, 1, 20, 0), 15);
        due(exchange(x, "limp 6 p=0"), FULL);
        due(x.count(5), 10);
        due(x.exchange(), FULL);
        due(x.count(1), 6);
        due(x.reads(0, 1, 20, 0), 15);

        // Nothing of a text that was read, or was none, stays in the next.
        x = traders(2);
        due(exchange(x, "bind 77"), 0);
        due(exchange(x, "bind 8"), 1);
        due(x.told(1), 8);
        due(exchange(x, "bind"), -14);
        for (int i = 0; i < 9; i++) {
            due(exchange(x, "firm 9 p=0;firm 9 p=0;firm 9 p=0;firm 9 p=0|q=1|q=1|q=1|q=1|q=1|q=1|q=1|q=1|q=1;bind 66;firm 9 p<9;"), -109);
        }
        due(exchange(x, "firm 1 p=1;limp 2 !p=1&(q=1|q=2)"), 2);
        due(x.told(1), 5);
        due(x.reads(0, 1, 50, 0), 48);
        due(x.reads(1, 0, 50, 0), 51);
        due(exchange(x, "bind 1"), 3);
        due(x.reads(0, 1, 50, 0), 50);
        due(exchange(x, "firm 9 p=0;firm 9 p=0;firm 9 p=0;"), -43);
        due(exchange(x, "firm 1 p=0"), 4);
        due(x.reads(0, 1, 50, 0), 51);

        x = traders(2);
        String hundred = "firm 99 p<9;firm 99 p<9;firm 99 p<9;firm 99 p<9;firm 99 p<9;firm 99 p<9;firm 99 p<9;firm 99 p<9&q<99";
        due(hundred.length(), 100);
        due(exchange(x, hundred), 0);
        due(x.reads(0, 1, 99, 0), 99 + 8 * 99);
        due(x.between(0, 1, 1), 100);
    }

    private static void exchangeFaults() {
        Due.about("promise 12, the faults");
        due(faultOf(""), 0);
        due(faultOf("x"), 0);
        due(faultOf(" firm 1 p=1"), 0);
        due(faultOf("f"), 1);
        due(faultOf("fa"), 1);
        due(faultOf("firm"), 4);
        due(faultOf("firm1"), 4);
        due(faultOf("firms"), 4);
        due(faultOf("firm "), 5);
        due(faultOf("firm  1"), 5);
        due(faultOf("firm p"), 5);
        due(faultOf("firm 1"), 6);
        due(faultOf("firm 1;"), 6);
        due(faultOf("firm 123 p=1"), 7);
        due(faultOf("firm 12p"), 7);
        due(faultOf("firm 1 "), 7);
        due(faultOf("firm 1  p=1"), 7);
        due(faultOf("firm 1 t=1"), 7);
        due(faultOf("firm 1 P=1"), 7);
        due(faultOf("firm 1 p"), 8);
        due(faultOf("firm 1 p!1"), 8);
        due(faultOf("firm 1 p=="), 9);
        due(faultOf("firm 1 p="), 9);
        due(faultOf("firm 1 p=x"), 9);
        due(faultOf("firm 1 p=123"), 11);
        due(faultOf("firm 1 p=12 "), 11);
        due(faultOf("firm 1 p=1)"), 10);
        due(faultOf("firm 1 p=1&"), 11);
        due(faultOf("firm 1 p=1&&"), 11);
        due(faultOf("firm 1 p=1|&"), 11);
        due(faultOf("firm 1 (p=1"), 11);
        due(faultOf("firm 1 (p=1;"), 11);
        due(faultOf("firm 1 ()"), 8);
        due(faultOf("firm 1 p=1;"), 11);
        due(faultOf("firm 1 p=1; "), 11);
        due(faultOf("firm 1 p=1;;"), 11);
        due(faultOf("firm 1 p=1 ;"), 10);
        due(faultOf("limb"), 3);
        due(faultOf("bind 1 p=1"), 6);
        due(faultOf("bind 123"), 7);
        due(faultOf("bind 12"), -1);
        due(faultOf("bind "), 5);
        due(faultOf("bind 1\u0000"), 6);
        due(faultOf("firm 1 ((((p=1))))"), -1);
        due(faultOf("firm 1 (((((p=1)))))"), 11);
        due(faultOf("firm 1 !!!!p=1"), -1);
        due(faultOf("firm 1 !!!!!p=1"), 11);
        due(faultOf("firm 1 !(!(p=1))"), -1);
        due(faultOf("firm 1 !(!((p=1)))"), 11);
        due(faultOf("firm 1 !(!(!p=1))"), 11);
        due(faultOf("firm 1 !!!!p=1&!!!!p=1"), -1);
        due(faultOf("firm 1 ((((p=1))))|((((p=1))))"), -1);
        due(faultOf(repeat("bind 1;", 9) + "bind 2"), -1);
        due(faultOf(repeat("bind 1;", 9) + "bind 2;"), 69);
        due(faultOf(repeat("bind 1;", 10) + "bind 2"), 69);
        due(faultOf(repeat("bind 1;", 8) + "bind 2;"), 63);
    }

    private static void toldPlain() {
        Due.about("promise 13");
        HandshakeBinds x = traders(3);
        x.owe(0, 1, 100);
        x.owe(1, 2, 50);
        x.owe(2, 0, 9999);
        due(x.told(0), 0);
        due(x.told(1), 5);
        due(x.told(2), 4);
        due(x.told(7), 10149);
        due(x.told(-1), NONE);
        due(x.told(8), NONE);
        due(x.told(LEAST), NONE);
        due(x.told(MOST), NONE);
        x.pass(8);
        due(x.told(0), 8);
        exchange(x, "bind 77");
        due(x.told(1), 77);

        // One falls after the other; one that owes just what it has does not.
        x = traders(6);
        x.owe(0, 1, 101);
        x.owe(1, 2, 150);
        x.owe(2, 3, 230);
        x.owe(3, 4, 100);
        x.owe(4, 5, 100);
        due(x.told(2), 1 + 2 + 4);
        x.owe(3, 4, 101);
        due(x.told(2), 1 + 2 + 4 + 8);
        x.purse(0, 101);
        due(x.told(2), 0);
    }

    private static void rescue() {
        Due.about("promise 13, RESCUE");
        HandshakeBinds x = traders(6);
        due(x.told(3), 0);
        x.owe(0, 1, 101);
        x.owe(1, 2, 150);
        x.owe(2, 3, 230);
        due(x.told(3), 1);
        x.owe(4, 5, 101);
        due(x.told(3), 1 + 16);
        // Each of a ring of two lacks 10 itself.
        x = traders(4);
        x.purse(1, 0);
        x.purse(3, 0);
        x.owe(1, 3, 50);
        x.owe(3, 1, 50);
        x.owe(1, 0, 10);
        x.owe(3, 2, 10);
        due(x.told(2), 2 + 8);
        due(x.told(3), 2 + 8);
        // One of them falls only with the other, and is saved with it.
        x.owe(1, 0, 0);
        due(x.told(2), 2 + 8);
        due(x.told(3), 8);
        x.owe(1, 3, 60);
        x.owe(3, 2, 0);
        due(x.told(2), 2 + 8);
        due(x.told(3), 2);
        // All fall, and all of them must be rescued but the one that all pay.
        x = traders(3);
        for (int one = 0; one < 3; one++) {
            x.purse(one, 0);
        }
        x.owe(0, 2, 101);
        x.owe(1, 2, 101);
        x.owe(2, 0, 50);
        x.owe(2, 1, 50);
        due(x.told(2), 7);
        due(x.told(3), 3);
        x.owe(2, 0, 100);
        x.owe(2, 1, 103);
        due(x.told(3), 1 + 4);
        // 99999 lasts for all that one can owe.
        x = traders(6);
        for (int other = 1; other < 6; other++) {
            x.owe(0, other, 9999);
        }
        due(x.of(0, 3), 49995);
        due(x.told(2), 1);
        due(x.told(3), 1);
    }

    private static void payments() {
        Due.about("promise 13, PAYMENTS");
        HandshakeBinds x = traders(6);
        due(x.told(4), 0);
        x.owe(0, 1, 10);
        due(x.told(4), 1);
        x.owe(1, 0, 10);
        due(x.told(4), 0);
        x.owe(1, 0, 0);
        x.owe(2, 3, 10);
        x.owe(4, 5, 10);
        due(x.told(4), 3);
        // Balances -12, 10, 2, ...: two payments, and one apart.
        x = traders(6);
        x.owe(0, 1, 10);
        x.owe(0, 2, 2);
        x.owe(3, 4, 7);
        due(x.told(4), 3);
        // -5, -5, 3, 3, 4, 0 has no two sets but the whole and the 0.
        x = traders(6);
        x.owe(0, 2, 3);
        x.owe(0, 4, 2);
        x.owe(1, 3, 3);
        x.owe(1, 4, 2);
        due(x.told(4), 4);
        // -6, -4, 1, 3, 2, 4: {-4, 4} and {-6, 1, 3, 2}; or {-6, 2, 4} and {-4, 1, 3}.
        x = traders(6);
        x.owe(0, 2, 1);
        x.owe(0, 3, 3);
        x.owe(0, 4, 2);
        x.owe(1, 5, 4);
        due(x.told(4), 4);
        // A ring of like debts is settled already.
        x = traders(3);
        x.owe(0, 1, 9);
        x.owe(1, 2, 9);
        x.owe(2, 0, 9);
        due(x.told(4), 0);
        x = traders(1);
        due(x.told(4), 0);
    }

    private static void ring() {
        Due.about("promise 13, RING");
        HandshakeBinds x = traders(6);
        due(x.told(5), 0);
        x.owe(0, 1, 1);
        due(x.told(5), 0);
        x.owe(1, 2, 1);
        due(x.told(5), 0);
        x.owe(2, 1, 1);
        due(x.told(5), 2);
        x.owe(2, 0, 1);
        due(x.told(5), 3);
        x.owe(5, 3, 1);
        x.owe(3, 5, 1);
        due(x.told(5), 3);
        x.owe(4, 3, 9);
        x.owe(5, 4, 9);
        x.owe(2, 0, 0);
        due(x.told(5), 3);
        x.owe(0, 5, 9999);
        x.owe(2, 0, 1);
        due(x.told(5), 3);
        x.owe(3, 1, 1);
        // 0 5 3 1 2 and back to 0; with 4 between 5 and 3 all six.
        due(x.told(5), 6);
        x.owe(4, 3, 0);
        due(x.told(5), 5);
        // A walk that comes by one twice is no ring.
        x = traders(5);
        x.owe(0, 1, 1);
        x.owe(1, 0, 1);
        x.owe(1, 2, 1);
        x.owe(2, 1, 1);
        x.owe(2, 3, 1);
        x.owe(3, 2, 1);
        due(x.told(5), 2);
    }

    private static void offset() {
        Due.about("promise 13, OFFSET");
        HandshakeBinds x = traders(3);
        x.owe(0, 1, 100);
        x.owe(1, 0, 30);
        x.owe(1, 2, 8);
        x.owe(0, 2, 5);
        x.owe(2, 0, 5);
        due(x.told(6), 78);
        due(x.told(7), 148);
        x.owe(1, 0, 150);
        due(x.told(6), 58);
        x = traders(6);
        x.owe(1, 0, 9);
        x.owe(5, 0, 9);
        x.owe(4, 5, 2);
        x.owe(5, 4, 3);
        due(x.told(6), 19);
    }

    private static void pass() {
        Due.about("promise 14");
        HandshakeBinds x = new HandshakeBinds();
        due(x.pass(0), 0);
        due(x.pass(60), 60);
        due(x.pass(61), BAD);
        due(x.pass(-1), BAD);
        due(x.pass(MOST), BAD);
        for (int i = 2; i <= 166; i++) {
            due(x.pass(60), i * 60);
        }
        due(x.pass(40), STATE);
        due(x.pass(61), BAD);
        due(x.pass(39), 9999);
        due(x.pass(1), STATE);
        due(x.pass(0), 9999);
        due(x.told(0), 9999);
    }

    // ---- seen, odds

    private static void see() {
        Due.about("promise 15");
        HandshakeBinds x = traders(2);
        due(x.see(0, 1, 50, 0, 50), 1);
        due(x.see(1, 0, 99, 20, 999), 2);
        due(x.see(0, 1, 0, 0, 0), 3);
        due(x.see(2, 0, 0, 0, 0), NONE);
        due(x.see(0, 2, 0, 0, 0), NONE);
        due(x.see(-2, 0, 0, 0, 0), NONE);
        due(x.see(0, -1, 0, 0, 0), NONE);
        due(x.see(2, 2, -1, -1, -1), NONE);
        due(x.see(1, 1, 0, 0, 0), BAD);
        due(x.see(0, 1, 100, 0, 0), BAD);
        due(x.see(0, 1, -1, 0, 0), BAD);
        due(x.see(0, 1, 0, 21, 0), BAD);
        due(x.see(0, 1, 0, -1, 0), BAD);
        due(x.see(0, 1, 0, 0, 1000), BAD);
        due(x.see(0, 1, 0, 0, -1), BAD);
        due(x.count(2), 3);
        due(x.see(0, 1, 1, 1, 1), 4);
        due(x.see(0, 1, 1, 1, 1), 5);
        due(x.see(0, 1, 1, 1, 1), FULL);
        due(x.see(0, 1, 1, 1, 1000), BAD);
        due(x.count(2), 5);
        due(x.see(-1, LEAST, MOST, -1, -1), 0);
        due(x.count(2), 0);
        due(x.see(1, 0, 7, 0, 7), 1);
        due(x.wrong(), LACKING);
    }

    private static void wrong() {
        Due.about("promise 16");
        HandshakeBinds x = with(0, 1, 4);
        due(x.wrong(), LACKING);
        x.see(0, 1, 50, 0, 50);
        x.see(1, 0, 4, 3, 0);
        x.see(2, 0, 50, 6, 0);
        due(x.wrong(), LACKING);
        x.see(0, 2, 4, 0, 4);
        due(x.wrong(), 3);
        exchange(x, "bind 4");
        due(x.wrong(), 1);
        exchange(x, "bind 6");
        due(x.wrong(), 3);
        exchange(x, "bind 6;firm 1 d=9");
        x.see(-1, 0, 0, 0, 0);
        x.see(0, 1, 50, 10, 51);
        due(x.wrong(), 0);
        // Days are counted from now, whenever now is.
        x.pass(9);
        due(x.wrong(), LACKING);
        x.pass(1);
        due(x.wrong(), 0);

        x = new HandshakeBinds();
        x.trader(0, 1);
        x.trader(1, 2);
        x.trader(1, 3);
        exchange(x, "firm 30 q=2");
        x.see(1, 0, 20, 0, 24);
        x.see(2, 0, 20, 0, 26);
        x.see(1, 2, 20, 0, 54);
        x.see(2, 1, 2, 0, 8);
        due(x.wrong(), LACKING);
    }

    private static void can() {
        Due.about("promise 17");
        HandshakeBinds x = new HandshakeBinds();
        x.trader(1, 4);
        x.trader(0, 0);
        x.trader(5, 2);
        due(x.can(0, 0), 10);
        due(x.can(0, 1), 0);
        x.see(0, 1, 50, 0, 60);
        due(x.can(0, 0), 1);
        due(x.can(0, 1), 5);
        due(x.can(1, 0), 10);
        x.see(0, 2, 50, 0, 58);
        due(x.can(0, 0), 0);
        due(x.can(0, 1), LACKING);
        x.see(-1, 0, 0, 0, 0);
        x.see(2, 1, 10, 0, 0);
        // 10 less 1 less v is below 5 from v 5 on.
        due(x.can(2, 0), 5);
        due(x.can(2, 1), 5);
        x.see(2, 0, 59, 0, 44);
        due(x.can(2, 0), 1);
        due(x.can(2, 1), 6);
        exchange(x, "firm 10 v>3&v<7");
        x.see(-1, 0, 0, 0, 0);
        x.see(1, 0, 20, 20, 30);
        due(x.can(1, 0), 3);
        due(x.can(1, 1), 4);
        due(x.of(1, 1), 0);
        due(x.can(3, 0), NONE);
        due(x.can(-1, 0), NONE);
        due(x.can(0, 2), NONE);
        due(x.can(0, -1), NONE);
    }

    private static void odds() {
        Due.about("promise 18");
        HandshakeBinds x = new HandshakeBinds();
        due(x.odds(0), NO);
        due(x.odds(1), NO);
        x.trader(0, 0);
        due(x.odds(0), 1);
        due(x.odds(1), 1);
        due(x.mean(0), 100);
        x = traders(4);
        due(x.odds(0), 1);
        due(x.odds(1), 1);
        due(x.odds(2), NO);
        due(x.odds(-1), NO);
        x.owe(0, 1, 100);
        x.owe(1, 2, 150);
        // Only 0 takes 1 with it.
        due(x.odds(0), 3);
        due(x.odds(1), 4);
        x.owe(2, 3, 150);
        // 0 takes 1, and 2 then; 1 takes 2.
        due(x.odds(0), 1);
        due(x.odds(1), 2);
        // One that fails by itself spoils it for the others, not for itself.
        x = traders(3);
        x.owe(0, 1, 101);
        due(x.odds(0), 1);
        due(x.odds(1), 3);
        x.owe(1, 2, 101);
        due(x.odds(0), 0);
        due(x.odds(1), 1);
    }

    private static void mean() {
        Due.about("promise 19");
        HandshakeBinds x = new HandshakeBinds();
        due(x.mean(0), NO);
        due(x.mean(1), NO);
        x = traders(4);
        due(x.mean(0), 100);
        due(x.mean(1), 1);
        x.purse(0, 102);
        due(x.mean(0), 201);
        due(x.mean(1), 2);
        x.purse(1, 101);
        due(x.mean(0), 403);
        due(x.mean(1), 4);
        due(x.mean(2), NO);
        due(x.mean(-1), NO);
        for (int one = 0; one < 4; one++) {
            x.purse(one, 0);
        }
        due(x.mean(0), 0);
        due(x.mean(1), 1);
    }

    // ---- plans, books

    private static void plan() {
        Due.about("promise 20");
        HandshakeBinds x = new HandshakeBinds();
        due(x.plan(0, -7), 1);
        due(x.plan(1, 0), NONE);
        x.trader(0, 0);
        due(x.plan(1, 0), 2);
        due(x.plan(2, 0), 3);
        due(x.plan(3, 0), 4);
        due(x.plan(4, 0), NONE);
        due(x.plan(-2, 0), NONE);
        due(x.plan(2, 1), NONE);
        due(x.plan(3, -1), NONE);
        for (int i = 5; i <= 10; i++) {
            due(x.plan(0, MOST), i);
        }
        due(x.plan(0, 0), FULL);
        due(x.plan(4, 0), NONE);
        due(x.plan(1, 1), NONE);
        due(x.count(3), 10);
        due(x.plan(-1, LEAST), 0);
        due(x.count(3), 0);
        due(x.told(0), 0);
    }

    private static void ends() {
        Due.about("promise 21");
        HandshakeBinds x = traders(4);
        x.owe(0, 1, 60);
        x.owe(0, 2, 60);
        x.owe(2, 3, 130);
        due(x.ends(0), 250);
        due(x.ends(1), 1 + 4);
        due(x.ends(2), NONE);
        due(x.ends(-1), NONE);
        x.plan(0, 0);
        due(x.ends(0), 250);
        // 0 pays 60 and 40; 2 has 140 then, and owes 130.
        x.plan(1, 0);
        due(x.ends(0), 150);
        due(x.ends(1), 1);
        x.plan(1, 2);
        due(x.ends(0), 20);
        x.plan(2, 0);
        due(x.ends(0), 0);
        due(x.ends(1), 0);
        due(x.told(7), 250);
        due(x.told(2), 5);
        due(x.of(0, 2), 100);
        due(x.told(0), 0);

        x.plan(-1, 0);
        x.plan(3, 2);
        due(x.ends(0), 190);
        due(x.ends(1), 4);
        x.plan(2, 2);
        due(x.ends(0), 60);

        // The order of the rows counts.
        x = traders(3);
        x.purse(1, 0);
        x.owe(0, 1, 100);
        x.owe(1, 2, 100);
        x.plan(1, 1);
        x.plan(1, 0);
        due(x.ends(0), 100);
        x.plan(-1, 0);
        x.plan(1, 0);
        x.plan(1, 1);
        due(x.ends(0), 0);

        // Each of six, and no one else's debts.
        x = traders(6);
        x.owe(0, 5, 7);
        x.owe(1, 0, 9);
        x.owe(5, 0, 8);
        x.plan(1, 0);
        due(x.ends(0), 17);
        x.plan(2, 5);
        due(x.ends(0), 9);
        x.plan(-1, 0);
        x.plan(2, 0);
        due(x.ends(0), 17);
        x.plan(3, 0);
        due(x.ends(0), 0);

        // No purse holds more than 9999.
        x = traders(3);
        x.purse(0, 9999);
        x.purse(1, 9998);
        x.owe(0, 1, 5000);
        x.owe(1, 2, 9999);
        x.owe(1, 0, 1);
        x.plan(1, 0);
        due(x.ends(1), 2);
        x.plan(1, 1);
        due(x.ends(0), 1);
        due(x.ends(1), 2);
    }

    private static void book() {
        Due.about("promise 22");
        HandshakeBinds x = traders(2);
        due(x.book(0, 1, 0), 1);
        due(x.book(1, 0, 9999), 2);
        due(x.book(0, 1, 10000), BAD);
        due(x.book(0, 1, -1), BAD);
        due(x.book(1, 1, 0), BAD);
        due(x.book(2, 2, -1), NONE);
        due(x.book(0, 2, 0), NONE);
        due(x.book(-2, 0, 0), NONE);
        due(x.book(0, -1, 0), NONE);
        for (int i = 3; i <= 8; i++) {
            due(x.book(0, 1, i), i);
        }
        due(x.book(0, 1, 0), FULL);
        due(x.book(0, 1, 10000), BAD);
        due(x.count(4), 8);
        due(x.book(-1, LEAST, MOST), 0);
        due(x.count(4), 0);
        due(x.between(0, 1, 0), 0);
    }

    private static void looked() {
        Due.about("promise 23");
        HandshakeBinds x = traders(3);
        due(x.looked(), LACKING);
        x.book(0, 1, 0);
        due(x.looked(), LACKING);
        x.book(1, 2, 30);
        x.book(0, 2, 7);
        due(x.looked(), 1);
        x.owe(1, 2, 30);
        due(x.looked(), 2);
        x.owe(0, 2, 7);
        due(x.looked(), LACKING);
        x.owe(0, 1, 1);
        due(x.looked(), 0);
        x.book(-1, 0, 0);
        due(x.looked(), LACKING);
        x.book(0, 1, 1);
        due(x.looked(), LACKING);
    }

    // ---- judging, the image, acts, tapes

    private static void judge() {
        Due.about("promise 24");
        HandshakeBinds x = new HandshakeBinds();
        due(x.judge(0, 0), LACKING);
        due(x.judge(5, LEAST), LACKING);
        due(x.judge(6, 0), NONE);
        due(x.judge(-1, 0), NONE);
        x.tape(1, 0, 3);
        due(x.judge(1, 0), CAST);
        x.tape(1, 2, 0);
        due(x.judge(1, 50), LACKING);
        for (int i = 0; i < 3; i++) {
            x.trader(0, 0);
        }
        due(x.judge(0, 0), 100);
        due(x.judge(1, 0), 100);
        x.owe(0, 1, 10);
        x.owe(0, 2, 4);
        x.tape(1, 2, 5);
        x.item(1, 1, -14);
        x.item(1, 2, 10);
        x.item(1, 3, 4);
        due(x.judge(1, 1), LACKING);
        due(x.judge(1, 0), 0);
        due(x.judge(1, 2), 0);
        x.item(1, 3, 5);
        due(x.judge(1, 1), 2);
        x.item(1, 2, 9);
        due(x.judge(1, 1), 1);
        x.item(1, 3, -14);
        x.item(1, 4, 10);
        due(x.judge(1, 3), 102);
        x.item(1, 4, 11);
        due(x.judge(1, 3), 1);
        x.item(1, 4, -14);
        due(x.judge(1, 4), 101);
        due(x.judge(1, 5), 100);
        due(x.judge(1, 6), 100);
        due(x.judge(1, -1), 100);
        due(x.judge(1, LEAST), 100);
        due(x.judge(1, MOST), 100);
        for (int sort : new int[] {0, 1, 3, 4}) {
            x.tape(2, sort, 5);
            due(x.judge(2, 0), CAST);
            due(x.judge(2, -1), CAST);
        }
    }

    private static void imageAndUndo() {
        Due.about("promises 25 and 26");
        HandshakeBinds x = with(6, 0, 4);
        due(x.undo(), STATE);
        x.owe(0, 1, 11);
        x.purse(1, 22);
        x.row(0, 2, 3);
        x.pass(4);
        x.see(0, 1, 50, 0, 999);
        x.plan(2, 0);
        x.book(0, 1, 10);
        exchange(x, "bind 44");
        due(x.image(), 3);
        x.owe(0, 1, 99);
        x.owe(1, 2, 99);
        x.purse(1, 99);
        x.row(0, 2, 9);
        x.row(0, 1, 9);
        x.pass(9);
        x.see(-1, 0, 0, 0, 0);
        x.see(1, 0, 50, 0, 50);
        x.see(1, 0, 50, 0, 50);
        x.plan(-1, 0);
        x.plan(0, 0);
        x.plan(0, 0);
        x.book(-1, 0, 0);
        x.book(0, 1, 11);
        x.book(0, 1, 11);
        exchange(x, "bind 45");
        x.trader(6, 8);
        x.owe(3, 0, 77);
        x.owe(0, 3, 78);
        x.row(3, 0, 9);
        x.purse(3, 5);
        due(x.undo(), 3);
        due(x.count(0), 3);
        due(x.between(0, 1, 0), 11);
        due(x.between(1, 2, 0), 0);
        due(x.of(1, 2), 22);
        due(x.row(0, 2, 3), 3);
        due(x.row(0, 1, 0), 0);
        due(x.told(0), 4);
        due(x.count(2), 1);
        due(x.wrong(), 0);
        due(x.count(3), 1);
        due(x.ends(0), 0);
        due(x.count(4), 1);
        due(x.looked(), 0);
        due(x.told(1), 44);
        due(x.of(3, 0), NONE_BELOW_ZERO);
        due(x.told(7), 11);
        // A newcomer of the same number has nothing of the one undone.
        due(x.trader(6, 1), 3);
        due(x.of(3, 1), 1);
        due(x.of(3, 2), 100);
        due(x.of(3, 3), 0);
        due(x.of(3, 4), 0);
        due(x.row(3, 0, 0), 0);
        // The image stays, and what came after it does not change it.
        x.owe(0, 1, 5);
        due(x.undo(), 3);
        due(x.between(0, 1, 0), 11);
        x.trader(0, 0);
        due(x.image(), 4);
        x.owe(0, 1, 6);
        due(x.undo(), 4);
        due(x.between(0, 1, 0), 11);
    }

    private static void imageLeavesTheRest() {
        Due.about("promise 26, what is no part of the image");
        HandshakeBinds x = with(1);
        due(x.image(), 1);
        x.feed('b');
        x.tape(0, 2, 3);
        x.item(0, 1, 7);
        x.act(0, 1, 0);
        exchange(x, "ind 9");
        x.feed('b');
        due(x.undo(), 1);
        due(x.count(1), 1);
        due(x.count(5), 1);
        due(x.told(1), 5);
        due(x.read(0, 1), 7);
        due(x.count(6), 3);
        due(x.trace(0), 20);
        due(exchange(x, "ind 8"), 1);
        due(x.told(1), 8);
        // An image of nothing.
        x = new HandshakeBinds();
        due(x.image(), 0);
        x.trader(0, 0);
        due(x.undo(), 0);
        due(x.undo(), 0);
        due(x.count(0), 0);
    }

    private static void trail(HandshakeBinds x, int... bodies) {
        due(x.count(6), bodies.length);
        for (int i = 0; i < bodies.length; i++) {
            due(x.trace(i), bodies[i]);
        }
        due(x.trace(bodies.length), NONE);
    }

    private static void actsOfUpperKinds() {
        Due.about("promises 27 and 28, kinds 0 to 3");
        HandshakeBinds x = new HandshakeBinds();
        x.trader(0, 9);
        x.trader(0, 3);
        x.trader(1, 3);
        x.trader(2, 3);
        x.trader(3, 4);
        due(x.act(0, 0, 7), 7);
        due(x.act(1, 0, 7), 8);
        trail(x, 10);
        due(x.act(1, 1, 7), 5);
        trail(x, 11, 10);
        due(x.act(1, 2, 7), 10);
        trail(x, 12, 11, 10);
        due(x.act(2, 0, 7), 9);
        trail(x, 10);
        due(x.act(2, 1, 7), (7 + 2 - 3) ^ 6);
        trail(x, 20, 11, 10);
        due(x.act(2, 2, 8), ((8 + 2 - 3) ^ 6) * 2);
        trail(x, 12, 20, 11, 10);
        due(x.act(3, 0, 7), 24);
        trail(x, 30, 10);
        due(x.act(3, 1, 7), 21);
        trail(x, 11, 30, 10);
        due(x.act(3, 2, 7), 42);
        trail(x, 12, 11, 30, 10);
        due(x.act(4, 0, 7), 11);
        due(x.act(4, 1, 7), 7);
        due(x.act(4, 2, 7), 14 + 1);
        trail(x, 40, 12, 11, 10, 11, 10);
        due(x.act(1, 0, MOST), LEAST);
        due(x.act(3, 0, MOST), MOST * 3 + 3);
        due(x.act(1, 2, 1 << 30), ((1 << 30) + 1 - 3) * 2);
    }

    private static void actsOfLowerKinds() {
        Due.about("promises 27 and 28, kinds 4 to 6");
        HandshakeBinds x = new HandshakeBinds();
        x.trader(0, 0);
        x.trader(4, 5);
        x.trader(5, 7);
        x.trader(6, 6);
        due(x.act(1, 0, 7), -8);
        trail(x, 50, 10);
        // 51 takes 8: 20, 11 with grips(8) of 50, which is -9; -14 ^ 6.
        due(x.act(1, 1, 7), -14 ^ 6);
        trail(x, 51, 20, 11, 50, 10);
        due(x.act(1, 2, 7), (-14 ^ 6) * 2);
        trail(x, 12, 51, 20, 11, 50, 10);
        due(x.act(2, 0, 4), 14);
        trail(x, 30, 10);
        due(x.act(2, 1, 4), 7);
        // 60 takes 2 off: 12, 11, 30 with 2 * 3 and 2 more, less 7, twice.
        due(x.act(2, 2, 4), 2);
        trail(x, 60, 12, 11, 30, 10);
        due(x.act(3, 0, 4), 7 ^ 6);
        trail(x, 71, 10);
        // 11: grips(4) is 7 ^ 6, less 6; and 2 + 3.
        due(x.act(3, 1, 4), (7 ^ 6) - 6 + 5);
        trail(x, 70, 11, 71, 10, 10);
        // tells: twice lets(4), and lets(1): (4 ^ 6) - 6 + 5.
        due(x.act(3, 2, 4), ((7 ^ 6) - 6 + 5) * 2 + (4 ^ 6) - 6 + 5);
        trail(x, 40, 12, 70, 11, 71, 10, 10, 70, 11, 71, 10, 10);
        due(x.act(1, 0, LEAST), -(LEAST + 1));
    }

    private static void trace() {
        Due.about("promises 27 and 28, wrong inputs");
        HandshakeBinds x = traders(2);
        due(x.trace(0), NONE);
        due(x.act(1, 2, 5), 12);
        due(x.trace(-1), NONE);
        due(x.trace(2), 10);
        due(x.trace(3), NONE);
        due(x.trace(LEAST), NONE);
        due(x.trace(MOST), NONE);
        due(x.act(2, 0, 5), 0);
        trail(x);
        x.act(1, 2, 5);
        due(x.act(1, 3, 5), 0);
        trail(x);
        x.act(1, 2, 5);
        due(x.act(1, -1, 5), 0);
        trail(x);
        x.act(1, 2, 5);
        due(x.act(-1, 0, 5), 0);
        trail(x);
        x.act(1, 2, 5);
        x.act(1, 0, 5);
        trail(x, 10);
        for (int kind = 0; kind < 7; kind++) {
            x = with(kind);
            for (int act : new int[] {-1, 3, 4, LEAST, MOST}) {
                x.act(0, 0, 9);
                due(x.act(0, act, 9), 0);
                trail(x);
            }
        }
    }

    private static void taken() {
        Due.about("promise 29");
        int[] up = {-1, 0, 0, 0, 1, 2, 3};
        for (int kind = 0; kind < 7; kind++) {
            HandshakeBinds x = with(kind);
            for (int k = 0; k < 7; k++) {
                boolean under = k == kind || k == 0 || up[kind] == k;
                due(x.taken(0, k), under ? kind : CAST);
            }
            due(x.taken(0, 7), BAD);
            due(x.taken(0, -1), BAD);
            due(x.taken(1, 0), NOTHING);
            due(x.taken(-1, 6), NOTHING);
            due(x.taken(1, 7), BAD);
        }
    }

    private static void count() {
        Due.about("promise 30");
        HandshakeBinds x = traders(2);
        exchange(x, "bind 1");
        exchange(x, "bind 2");
        exchange(x, "bind 3");
        x.see(0, 1, 0, 0, 0);
        for (int i = 0; i < 4; i++) {
            x.plan(0, 0);
        }
        for (int i = 0; i < 5; i++) {
            x.book(0, 1, 0);
        }
        for (int i = 0; i < 6; i++) {
            x.feed('x');
        }
        x.act(0, 1, 0);
        due(x.count(0), 2);
        due(x.count(1), 3);
        due(x.count(2), 1);
        due(x.count(3), 4);
        due(x.count(4), 5);
        due(x.count(5), 6);
        due(x.count(6), 2);
        due(x.count(7), BAD);
        due(x.count(-1), BAD);
        due(x.count(LEAST), BAD);
    }

    private static void tape() {
        Due.about("promise 31");
        HandshakeBinds x = new HandshakeBinds();
        due(x.tape(0, 0, 60), 1);
        due(x.read(0, 59), 0);
        due(x.read(0, 60), NO);
        due(x.tape(5, 4, 0), 1);
        due(x.read(5, 0), NO);
        due(x.item(5, 0, 1), PLACE);
        due(x.tape(6, 0, 1), NONE);
        due(x.tape(-1, 9, -1), NONE);
        due(x.tape(0, 5, -1), BAD);
        due(x.tape(0, -2, 1), BAD);
        due(x.tape(0, 0, 61), BAD);
        due(x.tape(0, 0, MOST), BAD);
        due(x.tape(0, 0, -1), SIZE);
        due(x.tape(0, 0, LEAST), SIZE);
        due(x.read(0, 59), 0);
        x.item(0, 0, 9);
        x.item(0, 3, 9);
        due(x.tape(0, 3, 10), 1);
        due(x.read(0, 0), 0);
        due(x.read(0, 3), 0);
        x.item(0, 3, 9);
        due(x.tape(0, 3, 10), 1);
        due(x.read(0, 3), 0);
        due(x.tape(0, -1, -5), 1);
        due(x.read(0, 0), NO);
        due(x.item(0, 0, 1), NOTHING);
        due(x.tape(0, -1, 99), 1);
    }

    private static void item() {
        Due.about("promise 32");
        HandshakeBinds x = new HandshakeBinds();
        long[] values = {0, 1, -1, 127, 128, 255, 256, 32768, -32769, 1L << 31, 1L << 32, NO, Long.MAX_VALUE};
        for (int sort = 0; sort < 5; sort++) {
            x.tape(sort, sort, 2);
        }
        for (long v : values) {
            for (int sort = 0; sort < 5; sort++) {
                due(x.item(sort, 1, v), 1);
            }
            due(x.read(0, 1), (byte) v);
            due(x.read(1, 1), (short) v);
            due(x.read(2, 1), (int) v);
            due(x.read(3, 1), v);
            due(x.read(4, 1), v == 0 ? 0 : 1);
            due(x.read(0, 0), 0);
        }
        due(x.item(0, 2, 5), PLACE);
        due(x.item(0, -1, 5), PLACE);
        due(x.item(0, MOST, 5), PLACE);
        due(x.item(5, -1, 5), NOTHING);
        due(x.item(6, 0, 5), NONE);
        due(x.item(-1, 0, 5), NONE);
    }

    private static void read() {
        Due.about("promise 33");
        HandshakeBinds x = new HandshakeBinds();
        x.tape(2, 1, 3);
        x.item(2, 0, 10);
        x.item(2, 2, -12);
        due(x.read(2, 0), 10);
        due(x.read(2, 1), 0);
        due(x.read(2, 2), -12);
        due(x.read(2, 3), NO);
        due(x.read(2, -1), NO);
        due(x.read(2, MOST), NO);
        due(x.read(1, 0), NO);
        due(x.read(6, 0), NO);
        due(x.read(-1, 0), NO);
    }

    private static void shift() {
        Due.about("promise 34");
        HandshakeBinds x = new HandshakeBinds();
        x.tape(0, 2, 5);
        x.tape(1, 2, 3);
        x.tape(2, 3, 5);
        for (int i = 0; i < 5; i++) {
            x.item(0, i, i + 1);
        }
        due(x.shift(0, 1, 1, 0, 3), 3);
        due(x.read(1, 0), 2);
        due(x.read(1, 2), 4);
        due(x.read(0, 1), 2);
        due(x.shift(0, 0, 0, 1, 4), 4);
        long[] up = {1, 1, 2, 3, 4};
        for (int i = 0; i < 5; i++) {
            due(x.read(0, i), up[i]);
        }
        due(x.shift(0, 1, 0, 0, 4), 4);
        long[] down = {1, 2, 3, 4, 4};
        for (int i = 0; i < 5; i++) {
            due(x.read(0, i), down[i]);
        }
        due(x.shift(0, 5, 1, 3, 0), 0);
        due(x.shift(0, 6, 1, 0, 0), PLACE);
        due(x.shift(0, 0, 1, 4, 0), PLACE);
        due(x.shift(0, 3, 1, 0, 3), PLACE);
        due(x.shift(0, 0, 1, 1, 3), PLACE);
        due(x.shift(0, -1, 1, 0, 1), PLACE);
        due(x.shift(0, 0, 1, -1, 1), PLACE);
        due(x.shift(0, 0, 1, 0, -1), PLACE);
        due(x.shift(0, MOST, 1, 0, MOST), PLACE);
        due(x.shift(0, 1, 1, 1, MOST), PLACE);
        due(x.shift(0, 0, 1, 0, LEAST), PLACE);
        due(x.shift(0, 0, 2, 0, 1), CAST);
        due(x.shift(0, -1, 2, 0, 9), CAST);
        due(x.shift(0, 0, 3, 0, 1), NOTHING);
        due(x.shift(3, 0, 2, 0, 1), NOTHING);
        due(x.shift(3, 0, 3, 0, 0), NOTHING);
        due(x.shift(3, 0, 6, 0, 1), NONE);
        due(x.shift(-1, 0, 0, 0, 1), NONE);
        due(x.read(1, 0), 2);
    }
}
