/**
 * The document's section "Terms", sentence by sentence: wherever one names a boundary, the last
 * value that is still allowed, and the first that is not. The words tested stand ahead of each part.
 */
public final class TermsTest extends Given {
    private TermsTest() {
    }

    public static void main(String[] args) {
        calls();
        traders();
        kindsAndNumbers();
        theText();
        clauses();
        blanks();
        digits();
        signs();
        conditions();
        tests();
        nests();
        faultsOfAllBeginnings();
        holding();
        force();
        bindInTheEnd();
        cuts();
        days();
        shaking();
        fails();
        daysBeyond();
        ifOneFails();
        rescue();
        gift();
        balanceAndPayments();
        ring();
        offset();
        squeezes();
        span();
        seen();
        can();
        oddsAndMean();
        planned();
        booked();
        actsWrap();
        trace();
        image();
        tapes();
        judged();
        Due.finish();
    }

    // ---- what it is

    private static void calls() {
        Due.about("at most 512 calls after it has been made");
        HandshakeBinds x = traders(2);
        for (int call = 3; call <= 511; call++) {
            due(x.owe(0, 1, call), call == 3 ? 0 : call - 1);
        }
        due(x.between(0, 1, 0), 511);
    }

    // ---- 1

    private static void traders() {
        Due.about("TRADERS 0 .. 5, as they come");
        HandshakeBinds x = new HandshakeBinds();
        due(x.of(0, 0), NONE_BELOW_ZERO);
        for (int i = 0; i <= 5; i++) {
            due(x.of(i, 0), NONE_BELOW_ZERO);
            due(x.trader(6 - i, 9 - i), i);
            due(x.of(i, 0), 6 - i);
            due(x.of(i, 1), 9 - i);
            due(x.count(0), i + 1);
        }
        due(x.trader(0, 0), FULL);
        due(x.count(0), 6);
        for (int i = 0; i <= 5; i++) {
            due(x.of(i, 0), 6 - i);
            due(x.of(i, 1), 9 - i);
        }
        due(x.of(6, 0), NONE_BELOW_ZERO);

        Due.about("a PURSE (0 .. 9999; 100 at first), a DEBT (0 .. 9999; 0 at first), DAY: 0 at first");
        for (int i = 0; i <= 5; i++) {
            due(x.of(i, 2), 100);
            for (int k = 0; k <= 5; k++) {
                due(x.between(i, k, 0), i == k ? BAD : 0);
            }
        }
        due(x.told(0), 0);
        for (int n : new int[] {0, 1, 9998, 9999}) {
            x.purse(5, n);
            due(x.of(5, 2), n);
            x.owe(5, 4, n);
            due(x.between(5, 4, 0), n);
        }
        due(x.purse(5, 10000), BAD);
        due(x.purse(5, -1), BAD);
        due(x.owe(5, 4, 10000), BAD);
        due(x.owe(5, 4, -1), BAD);
        due(x.of(5, 2), 9999);
        due(x.between(5, 4, 0), 9999);
        for (int i = 0; i < 5; i++) {
            x.owe(5, i, 9999);
            x.owe(i, 5, 9999);
        }
        due(x.of(5, 3), 49995);
        due(x.of(5, 4), 49995);
        due(x.of(5, 5), 0);
    }

    private static void kindsAndNumbers() {
        Due.about("KINDS 0 .. 6, v (0 .. 9)");
        for (int kind = 0; kind <= 6; kind++) {
            HandshakeBinds x = new HandshakeBinds();
            due(x.trader(kind, 0), 0);
            due(x.trader(kind, 9), 1);
            due(x.trader(kind, 10), BAD);
            due(x.trader(kind, -1), BAD);
            due(x.trader(kind, MOST), BAD);
            due(x.trader(kind, LEAST), BAD);
            due(x.of(0, 1), 0);
            due(x.of(1, 1), 9);
            due(x.count(0), 2);
        }
        for (int kind : new int[] {-1, 7, 8, LEAST, MOST}) {
            HandshakeBinds x = new HandshakeBinds();
            due(x.trader(kind, 0), NONE);
            due(x.count(0), 0);
        }
    }

    private static void theText() {
        Due.about("THE TEXT (bytes, 100 at most)");
        HandshakeBinds x = traders(2);
        // The 100th byte makes the 0 that v is not below a 05.
        String text = repeat("firm 1 p=0;", 7) + "firm 1 p=1|p=2|p=3|v<0";
        due(text.length(), 99);
        for (int i = 0; i < 99; i++) {
            due(x.feed(text.charAt(i)), i + 1);
        }
        due(x.feed('5'), 100);
        due(x.feed('5'), FULL);
        due(x.feed(-1), BAD);
        due(x.feed(128), BAD);
        due(x.count(5), 100);
        due(x.exchange(), 0);
        due(x.count(5), 0);
        due(x.reads(0, 1, 50, 0), 58);
        due(exchange(x, text), 1);
        due(x.reads(0, 1, 50, 0), 57);

        // The 100th byte may be the fault itself.
        for (int i = 0; i < 99; i++) {
            x.feed(text.charAt(i));
        }
        due(x.feed('x'), 100);
        due(x.exchange(), -10 - 99);
        // And a whole text of 100 may end too early.
        for (int i = 0; i < 99; i++) {
            x.feed(text.charAt(i));
        }
        due(x.feed('&'), 100);
        due(x.exchange(), -10 - 100);
        due(x.count(5), 0);

        Due.about("a byte of THE TEXT is a sign (0 .. 127)");
        for (int sign = 0; sign < 128; sign++) {
            HandshakeBinds y = new HandshakeBinds();
            due(y.feed(sign), 1);
            boolean begins = sign == 'f' || sign == 'l' || sign == 'b';
            due(y.exchange(), begins ? -11 : -10);
        }
    }

    private static void clauses() {
        Due.about("CLAUSES, 1 to 10, with ; between");
        due(faultOf(""), 0);
        due(faultOf(";"), 0);
        due(faultOf("bind 7"), -1);
        for (int n = 1; n <= 9; n++) {
            due(faultOf(repeat("bind 7;", n) + "bind 7"), -1);
            due(faultOf(repeat("bind 7;", n)), 7 * n);
            due(faultOf(repeat("bind 7;", n) + ";bind 7"), 7 * n);
            due(faultOf(repeat("bind 7;", n) + "x"), 7 * n);
        }
        due(faultOf(repeat("bind 7;", 10)), 69);
        due(faultOf(repeat("bind 7;", 10) + "bind 7"), 69);
        due(faultOf(repeat("bind 7;", 9) + "bind 7x"), 69);
        due(faultOf(repeat("bind 7;", 9) + "bind 77;"), 70);
        due(faultOf(";bind 7"), 0);
        due(faultOf("bind 7,bind 7"), 6);
        due(faultOf("bind 7bind 7"), 6);

        // All ten count, the first and the last too.
        HandshakeBinds x = traders(2);
        due(exchange(x, "firm 1 p=0;firm 2 p=0;firm 4 p=0;bind 9;bind 8;bind 7;firm 8 p=0;limp 1 p=0;limp 2 p=0;firm 9 p=0"), 0);
        due(x.told(1), 7);
        due(x.reads(0, 1, 50, 0), 50 + 1 + 2 + 4 + 8 - 1 - 2 + 9);
        due(exchange(x, repeat("bind 1;", 9) + "bind 2"), 1);
        due(x.told(1), 2);
        due(exchange(x, "bind 3;" + repeat("bind 1;", 8) + "firm 9 p=0"), 2);
        due(x.told(1), 1);
        due(x.reads(0, 1, 50, 0), 59);
    }

    private static void blanks() {
        Due.about("one blank ahead of each part behind the word");
        due(faultOf("firm 1 p=1"), -1);
        due(faultOf("limp 1 p=1"), -1);
        due(faultOf("bind 1"), -1);
        due(faultOf("firm1 p=1"), 4);
        due(faultOf("limp1 p=1"), 4);
        due(faultOf("bind1"), 4);
        due(faultOf("firm  1 p=1"), 5);
        due(faultOf("limp  1 p=1"), 5);
        due(faultOf("bind  1"), 5);
        due(faultOf("firm 1p=1"), 6);
        due(faultOf("limp 12p=1"), 7);
        due(faultOf("firm 1  p=1"), 7);
        due(faultOf("limp 12  p=1"), 8);
        due(faultOf("firm\t1 p=1"), 4);
        due(faultOf("firm 1\tp=1"), 6);
        due(faultOf("firm 1\np=1"), 6);
        due(faultOf("firm 1 (p=1) "), 12);
        due(faultOf("firm 1 ( p=1)"), 8);
        due(faultOf("firm 1 p =1"), 8);
        due(faultOf("firm 1 p= 1"), 9);
        due(faultOf("firm 1 p=1 "), 10);
        due(faultOf("firm 1 p=1 |q=1"), 10);
        due(faultOf("firm 1 p=1| q=1"), 11);
        due(faultOf("bind 1; bind 1"), 7);
        due(faultOf("bind 1 ;bind 1"), 6);
        due(faultOf(" bind 1"), 0);
        due(faultOf("FIRM 1 p=1"), 0);
        due(faultOf("fiRm 1 p=1"), 2);
        due(faultOf("lirm 1 p=1"), 2);
        due(faultOf("find 1"), 2);
        due(faultOf("bimp 1"), 2);
    }

    private static void digits() {
        Due.about("n 1 or 2 digits; a number (1 or 2 digits)");
        for (String word : new String[] {"firm ", "limp "}) {
            due(faultOf(word + " p=1"), 5);
            due(faultOf(word + "0 p=1"), -1);
            due(faultOf(word + "9 p=1"), -1);
            due(faultOf(word + "00 p=1"), -1);
            due(faultOf(word + "99 p=1"), -1);
            due(faultOf(word + "100 p=1"), 7);
            due(faultOf(word + "001 p=1"), 7);
            due(faultOf(word + "-1 p=1"), 5);
            due(faultOf(word + "1a p=1"), 6);
        }
        due(faultOf("bind "), 5);
        due(faultOf("bind 0"), -1);
        due(faultOf("bind 99"), -1);
        due(faultOf("bind 100"), 7);
        due(faultOf("bind 1a"), 6);
        due(faultOf("firm 1 p="), 9);
        due(faultOf("firm 1 p=0"), -1);
        due(faultOf("firm 1 p=00"), -1);
        due(faultOf("firm 1 p=99"), -1);
        due(faultOf("firm 1 p=000"), 11);
        due(faultOf("firm 1 p=100"), 11);
        due(faultOf("firm 1 p=-1"), 9);

        due(readUnder("firm 0 p=0", 50, 0), 50);
        due(readUnder("firm 9 p=0", 50, 0), 59);
        due(readUnder("firm 09 p=0", 50, 0), 59);
        due(readUnder("firm 10 p=0", 50, 0), 60);
        due(readUnder("firm 99 p=0", 50, 0), 149);
        due(readUnder("limp 99 p=0;bind 0", 99, 0), 0);
        due(readUnder("limp 98 p=0;bind 0", 99, 0), 1);
        due(readUnder("bind 99", 99, 0), 99);
        due(readUnder("bind 99", 98, 0), 0);
        due(readUnder("bind 00", 1, 0), 1);
        due(readUnder("firm 1 v<10", 50, 0), 51);
        due(readUnder("firm 1 v<99", 50, 0), 51);
        due(readUnder("firm 1 v=03", 50, 0), 51);
        due(readUnder("firm 1 v=30", 50, 0), 50);
        due(readUnder("firm 1 v>00", 50, 0), 51);
    }

    private static boolean isOf(String signs, int sign) {
        return signs.indexOf(sign) >= 0;
    }

    /** What may stand at a place, sign by sign: a fault at the place, or behind it. */
    private static void signs() {
        Due.about("a TEST: a letter, < or = or >, a number");
        for (int sign = 0; sign < 128; sign++) {
            String c = String.valueOf((char) sign);
            boolean digit = isOf("0123456789", sign);
            due(faultOf("firm 1 " + c + "=0"), isOf("pqkvsd", sign) ? -1 : isOf("(!", sign) ? 8 : 7);
            due(faultOf("firm 1 p" + c + "0"), isOf("<=>", sign) ? -1 : 8);
            due(faultOf("firm 1 p=" + c), digit ? -1 : 9);
            due(faultOf("firm 1 p=0" + c), digit ? -1 : isOf(";&|", sign) ? 11 : 10);
            due(faultOf("firm 1 p=00" + c), isOf(";&|", sign) ? 12 : 11);
            due(faultOf("firm 1 (p=0" + c), digit || isOf("&|", sign) ? 12 : sign == ')' ? -1 : 11);
            due(faultOf("firm 1 (p=0)" + c), isOf(";&|", sign) ? 13 : 12);
            due(faultOf("firm 1 !" + c), isOf("pqkvsd(!", sign) ? 9 : 8);
            due(faultOf("firm " + c), digit ? 6 : 5);
            due(faultOf("firm 1" + c), digit || sign == ' ' ? 7 : 6);
            due(faultOf("bind 1" + c), digit ? -1 : sign == ';' ? 7 : 6);
            due(faultOf("bind 11" + c), sign == ';' ? 8 : 7);
        }
        Due.about("a part of a TEST is not there");
        due(faultOf("firm 1 =1"), 7);
        due(faultOf("firm 1 1"), 7);
        due(faultOf("firm 1 p1"), 8);
        due(faultOf("firm 1 p=<1"), 9);
        due(faultOf("firm 1 pq=1"), 8);
        due(faultOf("firm 1 1=p"), 7);
    }

    private static void conditions() {
        Due.about("E: T or T|E. T: F or F&T. F: !F, (E), or a TEST");
        due(faultOf("firm 1 "), 7);
        for (String sign : new String[] {"|", "&"}) {
            due(faultOf("firm 1 " + sign + "p=1"), 7);
            due(faultOf("firm 1 p=1" + sign), 11);
            due(faultOf("firm 1 p=1" + sign + ";bind 1"), 11);
            due(faultOf("firm 1 p=1" + sign + "|p=1"), 11);
            due(faultOf("firm 1 p=1" + sign + "&p=1"), 11);
            due(faultOf("firm 1 (p=1" + sign + ")"), 12);
            due(faultOf("firm 1 !" + sign + "p=1"), 8);
            due(faultOf("firm 1 p=1" + sign + "!"), 12);
            due(faultOf("firm 1 p=1" + sign + "!q=1"), -1);
            due(faultOf("firm 1 p=1" + sign + "(q=1)"), -1);
        }
        due(faultOf("firm 1 !"), 8);
        due(faultOf("firm 1 !;bind 1"), 8);
        due(faultOf("firm 1 !)"), 8);
        due(faultOf("firm 1 (!)"), 9);
        due(faultOf("firm 1 ()"), 8);
        due(faultOf("firm 1 (;bind 1"), 8);
        due(faultOf("firm 1 p!=1"), 8);
        due(faultOf("firm 1 p=1!"), 10);
        due(faultOf("firm 1 p=1!q=1"), 10);
        due(faultOf("firm 1 p=1(q=1)"), 10);
        due(faultOf("firm 1 (p=1)(q=1)"), 12);
        due(faultOf("firm 1 (p=1"), 11);
        due(faultOf("firm 1 (p=1;bind 1"), 11);
        due(faultOf("firm 1 p=1)"), 10);
        due(faultOf("firm 1 (p=1))"), 12);
        due(faultOf("firm (p=1) 1"), 5);
        due(faultOf("bind 1 p=1"), 6);

        // p=0 and q=1 hold here, p=1 and q=0 do not.
        String yes = "p=0";
        String no = "q=0";
        String[] hold = {yes, "!" + no, "(" + yes + ")", yes + "|" + no, no + "|" + yes, yes + "&q=1",
            yes + "|" + no + "&" + no, no + "&" + no + "|" + yes, no + "|" + no + "|" + yes,
            "!" + no + "&" + yes, "!" + no + "|" + yes, "!(" + no + "|" + no + ")", "!(" + yes + "&" + no + ")",
            yes + "&(" + no + "|" + yes + ")", "!!" + yes, no + "&" + yes + "|" + yes + "&" + yes};
        String[] fail = {no, "!" + yes, "(" + no + ")", no + "|" + no, yes + "&" + no, no + "&" + yes,
            "(" + yes + "|" + yes + ")&" + no, no + "&(" + yes + "|" + yes + ")", "!" + yes + "|" + no,
            "!" + yes + "&" + no, "!(" + no + "|" + yes + ")", "!!" + no, yes + "&" + yes + "&" + no,
            no + "&" + yes + "|" + yes + "&" + no, "!(" + yes + "|" + no + "&" + no + ")"};
        // What waits outside the ( is there again behind the ).
        due(readUnder("firm 7 p=0|(q=0|(q=0|(q=0|(q=0&q=0))))", 50, 0), 57);
        due(readUnder("firm 7 q=0|(p=0|(q=0|(q=0|(q=0&q=0))))", 50, 0), 57);
        due(readUnder("firm 7 q=0|(q=0|(q=0|(q=0|(q=0&p=0))))", 50, 0), 50);
        due(readUnder("firm 7 q=0|(q=0|(q=0|(p=0|(q=0&p=0))))", 50, 0), 57);
        due(readUnder("firm 7 p=0&(q=0|(q=0|(q=0|q=0&q=0)|p=0))", 50, 0), 57);
        due(readUnder("firm 7 p=0&(p=0&(p=0&(p=0&(p=0|q=0))))", 50, 0), 57);
        due(readUnder("firm 7 q=0&(p=0&(p=0&(p=0&(p=0|q=0))))", 50, 0), 50);
        due(readUnder("firm 7 q=0|p=0&(q=0|p=0&(q=0|p=0&(q=0|p=0&(q=0|p=0))))", 50, 0), 57);
        due(readUnder("firm 7 q=0|p=0&(q=0|p=0&(q=0|p=0&(q=0|p=0&(q=0|p=1))))", 50, 0), 50);
        for (String e : hold) {
            due(readUnder("firm 7 " + e, 50, 0), 57);
            due(readUnder("limp 7 " + e, 50, 0), 43);
        }
        for (String e : fail) {
            due(readUnder("firm 7 " + e, 50, 0), 50);
            due(readUnder("limp 7 " + e, 50, 0), 50);
        }
    }

    private static void tests() {
        Due.about("p the one, q the other, k the KIND, v the v of the one, s the SQUEEZE by 10 (cut), d the DAY modulo 10");
        String letters = "pqkvsd";
        String[] asked = {"<2", "<3", "<4", "=2", "=3", "=4", ">2", ">3", ">4", "<03", "=03", ">03",
            "<30", "=30", ">30", "<0", "=0", ">0"};
        boolean[] so = {false, false, true, false, true, false, true, false, false, false, true, false,
            true, false, false, false, false, true};
        for (int letter = 0; letter < letters.length(); letter++) {
            for (int i = 0; i < asked.length; i++) {
                // The number 3 is the one letter's alone: all others have another one.
                HandshakeBinds x = new HandshakeBinds();
                for (int n = 0; n < 5; n++) {
                    x.trader(letters.charAt(letter) == 'k' ? 3 : 0, letters.charAt(letter) == 'v' ? 3 : 8);
                }
                int one = letters.charAt(letter) == 'p' ? 3 : 1;
                int other = letters.charAt(letter) == 'q' ? 3 : 2;
                int squeeze = letters.charAt(letter) == 's' ? 39 : 50;
                passTo(x, letters.charAt(letter) == 'd' ? 13 : 11);
                exchange(x, "firm 40 " + letters.charAt(letter) + asked[i]);
                int force = squeeze + (so[i] ? 40 : 0);
                due(x.reads(one, other, squeeze, 0), letters.charAt(letter) == 'k' ? force / 2 : force);
            }
        }
        // The SQUEEZE by 10, cut: 29, 30, 39, 40; the least and the most.
        int[] squeezed = {29, 30, 39, 40};
        for (int i = 0; i < 4; i++) {
            due(readUnder("firm 40 s=3", squeezed[i], 0), squeezed[i] + (i == 1 || i == 2 ? 40 : 0));
        }
        due(readUnder("firm 40 s=0", 0, 0), 40);
        due(readUnder("firm 40 s=0", 9, 0), 49);
        due(readUnder("firm 40 s=0", 10, 0), 10);
        due(readUnder("firm 40 s=9", 89, 0), 89);
        due(readUnder("firm 40 s=9", 90, 0), 130);
        due(readUnder("firm 40 s=9", 99, 0), 139);
        due(readUnder("firm 40 s>9", 99, 0), 99);
        // DAY modulo 10: 9 is the most, 10 is 0 again.
        due(readUnder("firm 40 d=9", 50, 9), 90);
        due(readUnder("firm 40 d=0", 50, 9), 50);
        due(readUnder("firm 40 d=0", 50, 10), 90);
        due(readUnder("firm 40 d=0", 50, 60), 90);
        due(readUnder("firm 40 d>9", 50, 59), 50);
        due(readUnder("firm 40 d=9", 50, 59), 90);
        // The least and the greatest number, KIND and v.
        HandshakeBinds x = new HandshakeBinds();
        x.trader(0, 0);
        for (int i = 1; i <= 5; i++) {
            x.trader(6, 9);
        }
        exchange(x, "firm 10 p=0;firm 20 q=5;firm 40 k=0;firm 80 v=0;firm 1 p<0;firm 1 k<0;firm 1 v<0");
        due(x.reads(0, 5, 50, 0), 200);
        exchange(x, "firm 10 p=5;firm 20 q=0;firm 40 k=6;firm 80 v=9;firm 2 p>5;firm 2 k>6;firm 2 v>9");
        due(x.reads(5, 0, 50, 0), 100);
    }

    private static void nests() {
        Due.about("A ( or ! within 4 others is none");
        for (int bits = 0; bits < 32; bits++) {
            StringBuilder open = new StringBuilder();
            StringBuilder close = new StringBuilder();
            for (int deep = 0; deep < 5; deep++) {
                boolean round = (bits >> deep & 1) != 0;
                open.append(round ? '(' : '!');
                close.append(round ? ")" : "");
                if (deep == 3 && bits < 16) {
                    due(faultOf("firm 1 " + open + "p=1" + close), -1);
                    due(faultOf("firm 1 p=1&" + open + "p=1" + close + "|" + open + "p=1" + close), -1);
                    due(faultOf("firm 1 " + open + "(p=1)" + close), 11);
                    due(faultOf("firm 1 " + open + "!p=1" + close), 11);
                }
            }
            due(faultOf("firm 1 " + open + "p=1" + close), 11);
            due(faultOf("firm 1 " + open), 11);
        }
        due(faultOf("firm 1 ((((p=0&!p=0))))"), 15);
        due(faultOf("firm 1 ((((p=0|(p=0)))))"), 15);
        due(faultOf("firm 1 (((!p=0&!p=0)))"), -1);
        due(faultOf("firm 1 (((!p=0&!!p=0)))"), 16);
        due(faultOf("firm 1 !(p=0)&!(p=0)&!(p=0)"), -1);
        due(faultOf("firm 1 ((((p=0))))&((((p=0))))|!!!!p=0"), -1);
        due(faultOf("firm 1 !!!!p=0;limp 1 !!!!p=0"), -1);
        due(readUnder("firm 7 !!!!p=0", 50, 0), 57);
        due(readUnder("firm 7 !(!(p=0))", 50, 0), 57);
        due(readUnder("firm 7 !((!p=0))", 50, 0), 57);
        due(readUnder("firm 7 !(((p=0)))", 50, 0), 50);
        due(readUnder("firm 7 ((((p=1))))|((((p=0))))", 50, 0), 57);
    }

    /** The ^ stand where the text up to there is an EXCHANGE; up to all other places it ends too early. */
    private static void faultsOfAllBeginnings() {
        Due.about("The FAULT: the first byte with which none begins so (the end, if it ends too early)");
        String[] marked = {
            "firm 12 !(p=1&q<22)^|k>3^;limp 9^^ v=3^|s>4^&d<5^;bind 7^7^",
            "bind 0^;firm 0 p>0^0^;limp 11 ((q=1|p=2)&!k=3)^;bind 3^",
            "limp 5 !!!!v<9^9^&((((d=0))))^;bind 1^;bind 2^;bind 3^;bind 4^;bind 5^;bind 6^;bind 7^;bind 8^;bind 9^"
        };
        for (String all : marked) {
            StringBuilder text = new StringBuilder();
            for (int i = 0; i < all.length(); i++) {
                if (all.charAt(i) == '^') {
                    continue;
                }
                boolean whole = i > 0 && all.charAt(i - 1) == '^' && !all.startsWith("^^", i - 2);
                due(faultOf(text.toString()), whole ? -1 : text.length());
                due(faultOf(text + "~"), text.length());
                due(faultOf(text + "~" + all.replace("^", "").substring(text.length())), text.length());
                text.append(all.charAt(i));
            }
            due(text.length() <= 100 ? 1 : 0, 1);
            due(faultOf(text.toString()), -1);
        }
    }

    private static void holding() {
        Due.about("The newest EXCHANGE holds (6 at most)");
        HandshakeBinds x = traders(2);
        for (int i = 0; i <= 5; i++) {
            due(x.count(1), i);
            due(exchange(x, "firm " + (i + 1) + " p=0;bind " + (10 + i)), i);
            due(x.told(1), 10 + i);
            due(x.reads(0, 1, 50, 0), 51 + i);
        }
        due(exchange(x, "bind 1"), FULL);
        due(x.count(1), 6);
        due(x.count(5), 6);
        due(x.told(1), 15);
        due(x.reads(0, 1, 50, 0), 56);
        // What is no EXCHANGE is FULL then, too.
        due(x.feed('?'), 7);
        due(x.exchange(), FULL);
        due(x.count(5), 7);

        Due.about("without one there are no CLAUSES. BIND (5 without): the last one's n");
        x = traders(2);
        due(x.told(1), 5);
        due(x.reads(0, 1, 50, 0), 50);
        due(x.reads(0, 1, 5, 0), 5);
        due(x.reads(0, 1, 4, 0), 0);
        due(exchange(x, "bind 6;"), -17);
        due(x.told(1), 5);
        due(x.count(1), 0);
        due(exchange(x, "limp 1 p=0"), 0);
        due(x.told(1), 5);
        due(x.reads(0, 1, 6, 0), 5);
        due(x.reads(0, 1, 5, 0), 0);
        due(exchange(x, "bind 0"), 1);
        due(x.told(1), 0);
        due(exchange(x, "bind 99"), 2);
        due(x.told(1), 99);
        due(exchange(x, "bind 99;bind 3;limp 1 p=0;bind 1;firm 2 p=0"), 3);
        due(x.told(1), 1);
        due(x.reads(0, 1, 0, 0), 1);
    }

    private static void force() {
        Due.about("FORCE: it, and the n of all firm whose E holds, less those of all limp (may be below 0)");
        HandshakeBinds x = pair(0, 0);
        exchange(x, "bind 0;limp 99 p=0");
        due(x.reads(0, 1, 99, 0), 0);
        due(x.reads(0, 1, 0, 0), 0);
        // A BROKER's v brings back what is below 0: -17 and 18.
        x = pair(1, 9);
        exchange(x, "bind 0;limp 20 p=0");
        due(x.reads(0, 1, 3, 0), 1);
        due(x.reads(0, 1, 2, 0), 0);
        due(x.reads(0, 1, 1, 0), 0);
        due(x.squeezes(0, 1, 1, 1), 3);
        // Together: first below 0, then above again.
        x = pair(0, 0);
        exchange(x, "bind 0;limp 90 p=0;limp 90 p=0;firm 99 p=0;firm 82 p=0");
        due(x.reads(0, 1, 0, 0), 1);
        exchange(x, "bind 0;limp 90 p=0;limp 90 p=0;firm 99 p=0;firm 81 p=0");
        due(x.reads(0, 1, 0, 0), 0);
        due(x.reads(0, 1, 1, 0), 1);
    }

    private static void bindInTheEnd() {
        Due.about("a sum; 0, if it is less than BIND in the end");
        int[] kinds = {0, 1, 2, 3, 4, 5, 6};
        int[] last = {4, 2, 4, 9, 2, 6, 7};
        for (int kind : kinds) {
            HandshakeBinds x = pair(kind, 1);
            if (kind == 6) {
                x.row(0, 0, 1);
            }
            due(x.reads(0, 1, last[kind], 0), 0);
            due(x.reads(0, 1, last[kind] + 1, 0), 5);
            due(x.between(0, 1, 0), 0);
            due(x.shake(0, 1, last[kind]), 0);
            due(x.shake(0, 1, last[kind] + 1), 5);
        }
        // It is the FORCE that is not looked at: 50 of 60 by gloves, 49 of 58.
        HandshakeBinds x = pair(2, 0);
        exchange(x, "bind 50");
        due(x.reads(0, 1, 58, 0), 0);
        due(x.reads(0, 1, 59, 0), 50);
        due(x.reads(0, 1, 60, 0), 50);
        x = pair(1, 9);
        exchange(x, "bind 50");
        due(x.reads(0, 1, 31, 0), 0);
        due(x.reads(0, 1, 32, 0), 50);
        x = pair(0, 0);
        exchange(x, "bind 0");
        due(x.reads(0, 1, 0, 0), 0);
        due(x.reads(0, 1, 1, 0), 1);
    }

    private static void cuts() {
        Due.about("GLOVED: FORCE less a sixth (cut toward 0) of that");
        HandshakeBinds x = pair(2, 9);
        exchange(x, "bind 0");
        int[] forces = {0, 1, 5, 6, 7, 11, 12, 17, 18, 59, 60, 95, 96, 99};
        int[] gloved = {0, 1, 5, 5, 6, 10, 10, 15, 15, 50, 50, 80, 80, 83};
        for (int i = 0; i < forces.length; i++) {
            due(x.reads(0, 1, forces[i], 0), gloved[i]);
        }
        Due.about("APPRENTICE: as GLOVED, less v");
        x = pair(5, 9);
        exchange(x, "bind 0");
        for (int i = 0; i < forces.length; i++) {
            due(x.reads(0, 1, forces[i], 0), Math.max(gloved[i] - 9, 0));
        }
        Due.about("FRAIL: the half (cut toward 0) of FORCE");
        x = pair(3, 9);
        exchange(x, "bind 0");
        int[] halves = {0, 0, 2, 3, 3, 5, 6, 8, 9, 29, 30, 47, 48, 49};
        for (int i = 0; i < forces.length; i++) {
            due(x.reads(0, 1, forces[i], 0), halves[i]);
        }
        Due.about("BROKER: FORCE, and twice v");
        for (int v = 0; v <= 9; v++) {
            x = pair(1, v);
            exchange(x, "bind 0");
            due(x.reads(0, 1, 0, 0), 2 * v);
            due(x.reads(0, 1, 99, 0), 99 + 2 * v);
            // The other one's v does nothing.
            due(x.reads(1, 0, 99, 0), 99);
        }
        Due.about("TOLD: as FRAIL, and its ROW: a FORCE below 0 is cut toward 0, too");
        x = pair(6, 0);
        x.row(0, 0, 9);
        exchange(x, "bind 0;limp 19 p=0");
        int[] told = {0, 0, 1, 1, 2, 2, 3, 3, 4, 4, 5, 5, 6, 6, 7, 7, 8, 8, 9, 9, 9, 10};
        for (int squeeze = 0; squeeze < told.length; squeeze++) {
            due(x.reads(0, 1, squeeze, 0), told[squeeze]);
        }
    }

    private static void days() {
        Due.about("PORTER: as BROKER; 0, if DAY modulo 7 is 6");
        HandshakeBinds x = pair(4, 3);
        exchange(x, "bind 0");
        for (int n = 0; n <= 60; n++) {
            boolean idle = n == 6 || n == 13 || n == 20 || n == 27 || n == 34 || n == 41 || n == 48 || n == 55;
            due(x.reads(0, 1, 50, n), idle ? 0 : 56);
        }
        passTo(x, 6);
        due(x.shake(0, 1, 99), 0);
        due(x.between(0, 1, 1), 0);
        due(x.pass(1), 7);
        due(x.shake(0, 1, 99), 105);
        due(x.between(0, 1, 1), 100);

        Due.about("ROW (four numbers 0 .. 9; 0 at first) at DAY modulo 4");
        x = pair(6, 0);
        exchange(x, "bind 0");
        for (int part = 0; part <= 3; part++) {
            due(x.row(0, part, 0), 0);
            due(x.row(0, part, 9), 0);
            due(x.row(0, part, 10), BAD);
            due(x.row(0, part, -1), BAD);
            due(x.row(0, part, 6 + part), 9);
        }
        due(x.row(0, 4, 1), NONE);
        due(x.row(0, -1, 1), NONE);
        for (int n = 0; n <= 60; n++) {
            due(x.reads(0, 1, 20, n), 16 + n % 4);
        }
        passTo(x, 3);
        due(x.reads(0, 1, 20, 0), 19);
        due(x.reads(0, 1, 20, 1), 16);

        Due.about("A DAY goes: DAY is 1 more");
        due(x.pass(0), 3);
        due(x.pass(1), 4);
        due(x.told(0), 4);
        due(x.reads(0, 1, 20, 0), 16);
    }

    private static void shaking() {
        Due.about("To SHAKE: the one OWES the other what is READ more (9999 at most)");
        int[] before = {9899, 9900, 9901, 9998, 9999};
        int[] after = {9998, 9999, 9999, 9999, 9999};
        for (int i = 0; i < before.length; i++) {
            HandshakeBinds x = traders(2);
            x.owe(0, 1, before[i]);
            due(x.shake(0, 1, 99), after[i]);
            due(x.between(0, 1, 0), after[i]);
            due(x.between(1, 0, 0), 0);
            due(x.of(0, 2), 100);
            due(x.of(1, 2), 100);
            due(x.told(0), 0);
        }
        // READ as 0, it is what it was; SQUEEZES are 0 .. 99.
        HandshakeBinds x = traders(2);
        x.owe(0, 1, 9999);
        due(x.shake(0, 1, 4), 9999);
        x.owe(0, 1, 7);
        due(x.shake(0, 1, 0), 7);
        due(x.shake(0, 1, 99), 106);
        due(x.shake(0, 1, 100), BAD);
        due(x.shake(0, 1, -1), BAD);
        due(x.between(0, 1, 0), 106);
    }

    private static void fails() {
        Due.about("one who OWES more, in all, than its PURSE and what those OWE it who do not FAIL fails, too");
        HandshakeBinds x = traders(3);
        x.owe(0, 1, 100);
        due(x.told(2), 0);
        x.owe(0, 1, 101);
        due(x.told(2), 1);
        x.owe(2, 0, 1);
        due(x.told(2), 0);
        // In all: to several, each less than the PURSE.
        x.owe(0, 1, 50);
        x.owe(0, 2, 51);
        due(x.told(2), 0);
        x.owe(0, 2, 52);
        due(x.told(2), 1);
        // An empty PURSE lasts for no DEBT.
        x = traders(2);
        x.purse(0, 0);
        due(x.told(2), 0);
        x.owe(0, 1, 1);
        due(x.told(2), 1);

        Due.about("so on, till nobody more does (in whatever order)");
        // Each owes just what it has and what the one ahead owes it; the first 1 more than it has.
        x = traders(6);
        for (int i = 0; i < 5; i++) {
            x.owe(i, i + 1, 101 + 100 * i);
        }
        due(x.told(2), 31);
        x.purse(0, 101);
        due(x.told(2), 0);
        x = traders(6);
        for (int i = 0; i < 5; i++) {
            x.owe(5 - i, 4 - i, 101 + 100 * i);
        }
        due(x.told(2), 62);
        x.purse(5, 101);
        due(x.told(2), 0);
        // All six, each only when the next has: none is left out however late it comes.
        x = traders(6);
        x.owe(5, 4, 702);
        x.owe(4, 3, 802);
        x.owe(3, 2, 902);
        x.owe(2, 1, 1002);
        x.owe(1, 0, 1102);
        x.owe(0, 5, 601);
        due(x.told(2), 63);
        due(x.of(2, 6), 63);
        due(x.told(3), 32);
        due(x.of(5, 7), 1);
        x.purse(5, 101);
        due(x.told(2), 0);
        // The chain stops at one that has enough without it.
        x = traders(6);
        x.owe(5, 4, 101);
        x.owe(4, 3, 201);
        x.owe(3, 2, 100);
        x.owe(2, 1, 200);
        due(x.told(2), 32 + 16);
        x.owe(3, 2, 101);
        due(x.told(2), 32 + 16 + 8 + 4);
    }

    // ---- 2

    private static void daysBeyond() {
        Due.about("as things are (DAYS beyond 9999, too)");
        HandshakeBinds x = new HandshakeBinds();
        x.trader(4, 2);
        x.trader(6, 0);
        x.trader(0, 0);
        for (int part = 0; part < 4; part++) {
            x.row(1, part, 5 + part);
        }
        passTo(x, 9999);
        due(x.told(0), 9999);
        due(x.pass(1), STATE);
        exchange(x, "bind 0;firm 30 d=0");
        // 9999 modulo 7 is 3, modulo 4 is 3, modulo 10 is 9.
        due(x.reads(0, 2, 50, 0), 54);
        due(x.reads(0, 2, 50, 1), 84);
        due(x.reads(0, 2, 50, 2), 54);
        due(x.reads(0, 2, 50, 3), 0);
        due(x.reads(0, 2, 50, 4), 54);
        due(x.reads(1, 2, 50, 0), 33);
        due(x.reads(1, 2, 50, 1), 45);
        due(x.reads(1, 2, 50, 60), 33);
        due(x.reads(1, 2, 50, 57), 30);
        due(x.see(0, 2, 50, 3, 0), 1);
        due(x.see(1, 2, 50, 1, 45), 2);
        due(x.see(2, 0, 50, 20, 50), 3);
        due(x.see(2, 0, 50, 11, 80), 4);
        due(x.wrong(), LACKING);
        due(x.can(0, 0), 10);
        due(x.see(0, 2, 50, 1, 84), 5);
        due(x.can(0, 0), 1);
        due(x.can(0, 1), 2);
        due(x.told(0), 9999);
    }

    private static void ifOneFails() {
        Due.about("IF one FAILS: likewise, that having failed");
        HandshakeBinds x = traders(6);
        for (int i = 0; i <= 5; i++) {
            due(x.of(i, 6), 1 << i);
        }
        x.owe(0, 5, 100);
        x.owe(5, 4, 200);
        due(x.of(0, 6), 1 + 32);
        due(x.of(5, 6), 32);
        x.owe(5, 4, 199);
        due(x.of(0, 6), 1 + 32);
        x.owe(0, 5, 99);
        x.owe(5, 4, 100);
        due(x.of(0, 6), 1);
        x.owe(5, 4, 101);
        due(x.of(0, 6), 1 + 32);
        // Who fails by itself is among them.
        x.owe(3, 4, 101);
        due(x.of(1, 6), 2 + 8);
        due(x.of(0, 6), 1 + 32 + 8);
    }

    private static void rescue() {
        Due.about("RESCUE: the set with the fewest, were the PURSE of each of them 99999");
        HandshakeBinds x = new HandshakeBinds();
        due(x.told(3), 0);
        x = traders(6);
        due(x.told(3), 0);
        x.owe(0, 1, 100);
        due(x.told(3), 0);
        x.owe(0, 1, 101);
        due(x.told(3), 1);
        // The one at the chain's beginning alone, or at its end.
        x = traders(6);
        for (int i = 0; i < 5; i++) {
            x.owe(i, i + 1, 101 + 100 * i);
        }
        due(x.told(2), 31);
        due(x.told(3), 1);
        x = traders(6);
        for (int i = 0; i < 5; i++) {
            x.owe(5 - i, 4 - i, 101 + 100 * i);
        }
        due(x.told(3), 32);
        // Five must be, and all the others pay what they owe; there is always one.
        x = traders(6);
        for (int i = 1; i <= 5; i++) {
            x.owe(i, 0, 9999);
        }
        due(x.told(2), 62);
        due(x.told(3), 62);
        for (int i = 0; i <= 5; i++) {
            x.purse(i, 0);
            for (int k = 0; k <= 5; k++) {
                x.owe(i, k, 9999);
            }
        }
        due(x.told(2), 0);
        due(x.told(3), 0);
        for (int i = 1; i <= 5; i++) {
            x.owe(i, 0, 0);
        }
        due(x.told(2), 1);
        due(x.told(3), 1);
    }

    private static void gift() {
        Due.about("GIFT: the least number (0 .. 9999) by which it does not FAIL (-5: none)");
        HandshakeBinds x = traders(3);
        x.owe(0, 1, 40);
        // There is much left: no less than 0 is the least.
        due(x.of(0, 7), 0);
        due(x.of(1, 7), 0);
        due(x.of(2, 7), 0);
        x.owe(0, 1, 100);
        due(x.of(0, 7), 0);
        x.owe(0, 1, 101);
        due(x.of(0, 7), 1);
        x.owe(0, 1, 9999);
        due(x.of(0, 7), 9899);
        x.owe(0, 2, 100);
        due(x.of(0, 7), 9999);
        x.owe(0, 2, 101);
        due(x.of(0, 7), LACKING);
        x.owe(1, 0, 1);
        due(x.of(0, 7), 9999);
        // The PURSE may be above 9999 so: 9999 in it, and 9999 more.
        x = traders(4);
        x.purse(0, 9999);
        x.owe(0, 1, 9999);
        x.owe(0, 2, 9999);
        due(x.of(0, 7), 9999);
        x.owe(0, 3, 1);
        due(x.of(0, 7), LACKING);
        x.purse(0, 0);
        x.owe(0, 2, 0);
        x.owe(0, 3, 0);
        due(x.of(0, 7), 9999);
    }

    private static void balanceAndPayments() {
        Due.about("BALANCE of one: what all OWE it less what it OWES, together");
        HandshakeBinds x = traders(6);
        for (int i = 1; i <= 5; i++) {
            x.owe(0, i, 9999);
        }
        due(x.of(0, 5), -49995);
        due(x.of(5, 5), 9999);
        for (int i = 1; i <= 5; i++) {
            x.owe(i, 0, 9999);
            x.owe(0, i, 0);
        }
        due(x.of(0, 5), 49995);
        due(x.of(5, 5), -9999);

        Due.about("PAYMENTS: the fewest that bring all BALANCES to 0");
        due(new HandshakeBinds().told(4), 0);
        for (int n = 1; n <= 6; n++) {
            due(traders(n).told(4), 0);
        }
        // None of these five sets any other to 0: as many payments as there are payers.
        for (int n = 2; n <= 6; n++) {
            x = traders(n);
            for (int i = 1; i < n; i++) {
                x.owe(0, i, 1 << i);
            }
            due(x.told(4), n - 1);
        }
        // Three pairs; a pair and four; two of three.
        x = traders(6);
        x.owe(0, 5, 3);
        x.owe(1, 4, 30);
        x.owe(2, 3, 300);
        due(x.told(4), 3);
        x = traders(6);
        x.owe(0, 5, 3);
        x.owe(1, 4, 30);
        x.owe(2, 3, 300);
        x.owe(2, 4, 7);
        due(x.told(4), 4);
        x = traders(6);
        x.owe(0, 1, 3);
        x.owe(0, 2, 4);
        x.owe(3, 4, 10);
        x.owe(3, 5, 20);
        due(x.told(4), 4);
        x.owe(3, 5, 24);
        x.owe(2, 3, 4);
        due(x.told(4), 4);
    }

    private static void ring() {
        Due.about("RING: (0: there is none; 2 at least)");
        due(new HandshakeBinds().told(5), 0);
        due(traders(1).told(5), 0);
        for (int n = 2; n <= 6; n++) {
            HandshakeBinds x = traders(n);
            for (int i = 0; i + 1 < n; i++) {
                x.owe(i, i + 1, 1);
            }
            due(x.told(5), 0);
            x.owe(n - 1, 0, 1);
            due(x.told(5), n);
            x.owe(n - 1, 0, 9999);
            due(x.told(5), n);
            // Each owing something: not one of them nothing.
            x.owe(0, 1, 0);
            due(x.told(5), 0);
        }
        // A ring without the first, and without the last.
        HandshakeBinds x = traders(6);
        for (int i = 1; i <= 5; i++) {
            x.owe(i, i == 5 ? 1 : i + 1, 1);
        }
        due(x.told(5), 5);
        x = traders(6);
        for (int i = 0; i <= 4; i++) {
            x.owe(i, i == 0 ? 4 : i - 1, 1);
        }
        due(x.told(5), 5);
        x = traders(6);
        x.owe(4, 5, 1);
        x.owe(5, 4, 1);
        due(x.told(5), 2);
    }

    private static void offset() {
        Due.about("OFFSET: what all OWE all, if of each two the lesser DEBT is taken from both");
        due(new HandshakeBinds().told(6), 0);
        HandshakeBinds x = traders(2);
        x.owe(0, 1, 50);
        due(x.told(6), 50);
        x.owe(1, 0, 49);
        due(x.told(6), 1);
        x.owe(1, 0, 50);
        due(x.told(6), 0);
        x.owe(1, 0, 51);
        due(x.told(6), 1);
        x = traders(6);
        for (int i = 0; i <= 5; i++) {
            for (int k = i + 1; k <= 5; k++) {
                x.owe(i, k, 9999);
            }
        }
        due(x.told(6), 15 * 9999);
        due(x.told(7), 15 * 9999);
        for (int i = 0; i <= 5; i++) {
            for (int k = i + 1; k <= 5; k++) {
                x.owe(k, i, 9999);
            }
        }
        due(x.told(6), 0);
        due(x.told(7), 30 * 9999);
    }

    private static void squeezes() {
        Due.about("SQUEEZES of one to another and a sum (1 .. 999): how many of 0 .. 99; the least (-5: none)");
        HandshakeBinds x = pair(0, 0);
        due(x.squeezes(0, 1, 0, 0), BAD);
        due(x.squeezes(0, 1, 1, 0), 0);
        due(x.squeezes(0, 1, 1, 1), LACKING);
        due(x.squeezes(0, 1, 5, 0), 1);
        due(x.squeezes(0, 1, 5, 1), 5);
        due(x.squeezes(0, 1, 4, 1), LACKING);
        due(x.squeezes(0, 1, 99, 0), 1);
        due(x.squeezes(0, 1, 99, 1), 99);
        due(x.squeezes(0, 1, 100, 0), 0);
        due(x.squeezes(0, 1, 100, 1), LACKING);
        due(x.squeezes(0, 1, 999, 0), 0);
        due(x.squeezes(0, 1, 999, 1), LACKING);
        due(x.squeezes(0, 1, 1000, 0), BAD);
        exchange(x, "bind 0");
        due(x.squeezes(0, 1, 1, 1), 1);
        // The squeeze 0 counts, too, and is the least.
        exchange(x, "firm 10 s=0");
        due(x.squeezes(0, 1, 10, 0), 2);
        due(x.squeezes(0, 1, 10, 1), 0);
        due(x.squeezes(0, 1, 19, 0), 2);
        due(x.squeezes(0, 1, 19, 1), 9);
        // Ten, a hundred less one: all of one ten as the ten ahead.
        exchange(x, "limp 10 s=9;firm 10 s=7");
        for (int sum = 80; sum <= 89; sum++) {
            due(x.squeezes(0, 1, sum, 0), 3);
            due(x.squeezes(0, 1, sum, 1), sum - 10);
        }
        // The greatest sums that a text of 100 bytes can make: 909 by a BROKER.
        x = pair(1, 9);
        exchange(x, repeat("firm 99 p=0;", 7) + "firm 99 p=0");
        due(x.squeezes(0, 1, 909, 1), 99);
        due(x.squeezes(0, 1, 810, 1), 0);
        due(x.squeezes(0, 1, 809, 1), LACKING);
        due(x.squeezes(0, 1, 910, 1), LACKING);
    }

    private static void span() {
        Due.about("SPAN: how many sums, 0 not counted, there are that can be READ so");
        HandshakeBinds x = pair(0, 0);
        due(x.between(0, 1, 1), 95);
        exchange(x, "bind 0");
        due(x.between(0, 1, 1), 99);
        exchange(x, "bind 99");
        due(x.between(0, 1, 1), 1);
        exchange(x, "bind 99;limp 1 p=0");
        due(x.between(0, 1, 1), 0);
        exchange(x, "firm 5 p=0");
        due(x.between(0, 1, 1), 100);
        x = pair(3, 0);
        due(x.between(0, 1, 1), 45);
        x = pair(2, 0);
        // 5 .. 99 less a sixth: 5 .. 83, and nothing between them is left out.
        due(x.between(0, 1, 1), 79);
    }

    private static void seen() {
        Due.about("SEEN told by hand: a SQUEEZE, DAYS n (0 .. 20), READ as (0 .. 999; 5 rows at most)");
        HandshakeBinds x = traders(2);
        due(x.see(0, 1, 0, 0, 0), 1);
        due(x.see(0, 1, 99, 20, 999), 2);
        due(x.see(0, 1, 99, 21, 99), BAD);
        due(x.see(0, 1, 99, -1, 99), BAD);
        due(x.see(0, 1, 100, 0, 99), BAD);
        due(x.see(0, 1, -1, 0, 0), BAD);
        due(x.see(0, 1, 99, 0, 1000), BAD);
        due(x.see(0, 1, 99, 0, -1), BAD);
        due(x.count(2), 2);
        due(x.see(1, 0, 7, 0, 7), 3);
        due(x.see(1, 0, 8, 0, 8), 4);
        due(x.see(1, 0, 9, 0, 9), 5);
        due(x.see(1, 0, 9, 0, 9), FULL);
        due(x.count(2), 5);
        due(x.wrong(), 1);

        Due.about("FALSE: the first row of SEEN that is not so (-5: all are)");
        x = traders(2);
        due(x.wrong(), LACKING);
        exchange(x, "firm 9 p=0");
        due(x.wrong(), LACKING);
        for (int i = 0; i < 5; i++) {
            x = traders(2);
            for (int k = 0; k < 5; k++) {
                x.see(0, 1, 50 + k, k, k < i ? 50 + k : 49 + k);
            }
            due(x.wrong(), i);
        }
        // The last row alone, and none; one by one.
        x = traders(2);
        for (int k = 0; k < 5; k++) {
            x.see(0, 1, 50 + k, k, 50 + k);
            due(x.wrong(), LACKING);
        }
        // n DAYS from now: 0 is now, 20 counts, too; as things are when it is asked.
        x = traders(2);
        exchange(x, "firm 9 d=3");
        passTo(x, 3);
        x.see(0, 1, 50, 0, 59);
        x.see(0, 1, 50, 1, 50);
        x.see(0, 1, 50, 20, 59);
        due(x.wrong(), LACKING);
        x.pass(10);
        due(x.wrong(), LACKING);
        x.pass(1);
        due(x.wrong(), 0);
    }

    private static void can() {
        Due.about("CAN of one: how many numbers v (0 .. 9); the least (-5: none)");
        // Without a row of SEEN, and with none of the squeezes of it, all are.
        HandshakeBinds x = new HandshakeBinds();
        x.trader(1, 4);
        x.trader(1, 4);
        x.trader(1, 4);
        due(x.can(1, 0), 10);
        due(x.can(1, 1), 0);
        x.see(0, 1, 50, 0, 999);
        x.see(2, 1, 50, 0, 999);
        due(x.can(1, 0), 10);
        due(x.can(1, 1), 0);
        due(x.can(0, 0), 0);
        due(x.can(0, 1), LACKING);
        due(x.can(2, 0), 0);
        due(x.can(2, 1), LACKING);
        // The least v and the greatest.
        for (int v = 0; v <= 9; v++) {
            x = new HandshakeBinds();
            x.trader(1, 4);
            x.trader(0, 0);
            x.see(0, 1, 50, 0, 50 + 2 * v);
            due(x.can(0, 0), 1);
            due(x.can(0, 1), v);
            due(x.wrong(), v == 4 ? LACKING : 0);
            due(x.of(0, 1), 4);
        }
        x = pair(1, 4);
        x.see(0, 1, 50, 0, 70);
        due(x.can(0, 0), 0);
        due(x.can(0, 1), LACKING);
        x.see(-1, 0, 0, 0, 0);
        x.see(0, 1, 50, 0, 49);
        due(x.can(0, 0), 0);
        // All of SEEN of it: the first row and the last.
        x = pair(0, 4);
        exchange(x, "firm 9 v>6");
        x.see(0, 1, 50, 0, 59);
        due(x.can(0, 0), 3);
        due(x.can(0, 1), 7);
        exchange(x, "firm 9 v<9");
        due(x.can(0, 0), 9);
        due(x.can(0, 1), 0);
        x.see(0, 1, 40, 0, 40);
        due(x.can(0, 0), 0);
        exchange(x, "firm 9 v<9&s=5");
        due(x.can(0, 0), 9);
    }

    private static void oddsAndMean() {
        Due.about("ODDS: a fraction in lowest terms (NO: there are none)");
        HandshakeBinds x = new HandshakeBinds();
        due(x.odds(0), NO);
        due(x.odds(1), NO);
        for (int n = 1; n <= 6; n++) {
            x = traders(n);
            due(x.odds(0), 1);
            due(x.odds(1), 1);
        }
        // Each of a chain of so many pays by what the one ahead pays it; only the last takes nobody with it.
        int[] above = {1, 5, 2, 1, 1, 1};
        int[] below = {1, 6, 3, 2, 3, 6};
        for (int k = 0; k <= 5; k++) {
            x = traders(6);
            for (int i = 0; i <= k; i++) {
                x.owe(i, i == 0 ? 5 : i - 1, 101);
                x.purse(i, i == k ? 101 : 0);
            }
            due(x.odds(0), above[k]);
            due(x.odds(1), below[k]);
        }
        // None: one fails by itself, and so does another.
        x = traders(2);
        x.purse(0, 0);
        x.purse(1, 0);
        x.owe(0, 1, 2);
        x.owe(1, 0, 2);
        due(x.odds(0), 0);
        due(x.odds(1), 1);
        for (int part : new int[] {-1, 2, 3, LEAST, MOST}) {
            due(x.odds(part), NO);
            due(x.mean(part), NO);
        }

        Due.about("MEAN: the PURSES of all, together, by how many they are: likewise");
        x = new HandshakeBinds();
        due(x.mean(0), NO);
        due(x.mean(1), NO);
        x = traders(6);
        for (int i = 0; i <= 5; i++) {
            x.purse(i, 9999);
        }
        due(x.mean(0), 9999);
        due(x.mean(1), 1);
        x.purse(5, 9998);
        due(x.mean(0), 59993);
        due(x.mean(1), 6);
        x.purse(5, 9997);
        due(x.mean(0), 29996);
        due(x.mean(1), 3);
        x.purse(5, 9996);
        due(x.mean(0), 19997);
        due(x.mean(1), 2);
        for (int i = 0; i <= 5; i++) {
            x.purse(i, 0);
        }
        due(x.mean(0), 0);
        due(x.mean(1), 1);
        x.purse(0, 1);
        due(x.mean(0), 1);
        due(x.mean(1), 6);
    }

    private static void planned() {
        Due.about("A PLAN told by hand: (0 a DAY, 1 .., 2 .., 3 ..; 10 rows at most)");
        HandshakeBinds x = traders(2);
        for (int what = 0; what <= 3; what++) {
            due(x.plan(what, 1), what + 1);
        }
        due(x.plan(4, 1), NONE);
        due(x.plan(-2, 1), NONE);
        for (int row = 5; row <= 10; row++) {
            due(x.plan(0, 0), row);
        }
        due(x.plan(0, 0), FULL);
        due(x.count(3), 10);
        // The tenth row counts, and the first.
        x = traders(2);
        x.owe(0, 1, 60);
        x.owe(1, 0, 7);
        x.plan(2, 1);
        for (int row = 2; row <= 9; row++) {
            x.plan(0, 0);
        }
        due(x.ends(0), 60);
        x.plan(1, 0);
        due(x.ends(0), 0);
        due(x.told(7), 67);

        Due.about("1 one pays all it can, each as far as its PURSE goes then");
        int[] debts = {99, 100, 101};
        int[] left = {0, 0, 1};
        for (int i = 0; i < 3; i++) {
            x = traders(3);
            x.owe(0, 2, debts[i]);
            x.plan(1, 0);
            due(x.ends(0), left[i]);
            // What is left in the PURSE is 1, 0, 0; what is owed then fails or not.
            due(x.ends(1), i == 2 ? 1 : 0);
        }
        x = traders(4);
        x.owe(0, 1, 40);
        x.owe(0, 2, 60);
        x.owe(0, 3, 1);
        x.plan(1, 0);
        due(x.ends(0), 1);
        // One behind the other by number of whom it OWES: 3 gets the rest alone, and pays it.
        x = traders(4);
        for (int i = 1; i <= 3; i++) {
            x.owe(0, i, 40);
            x.purse(i, 0);
            x.owe(i, 0, 40);
        }
        x.plan(1, 0);
        x.plan(2, 0);
        x.plan(1, 3);
        due(x.ends(0), 40 + 40 + 20);
        x.plan(1, 2);
        due(x.ends(0), 40 + 20);
        x.purse(0, 0);
        x.plan(-1, 0);
        x.plan(1, 0);
        due(x.ends(0), 240);

        Due.about("whose PURSE is as much more, 9999 at most");
        // 1 has so much, gets 5, and owes 9999 to 2 first, 4 to 3 then.
        int[] purses = {9993, 9994, 9995, 9999};
        int[] rest = {5, 4, 4, 4};
        for (int i = 0; i < purses.length; i++) {
            x = traders(4);
            x.purse(1, purses[i]);
            x.owe(0, 1, 5);
            x.owe(1, 2, 9999);
            x.owe(1, 3, 4);
            x.plan(1, 0);
            x.plan(1, 1);
            due(x.ends(0), rest[i]);
        }

        Due.about("2 its DEBTS are 0, 3 what others OWE it is 0");
        x = traders(6);
        for (int i = 0; i <= 5; i++) {
            for (int k = 0; k <= 5; k++) {
                x.owe(i, k, 1);
            }
        }
        due(x.ends(0), 30);
        for (int what = 2; what <= 3; what++) {
            x.plan(-1, 0);
            for (int i = 0; i <= 5; i++) {
                x.plan(what, i);
                due(x.ends(0), 30 - 5 * (i + 1));
            }
        }
        due(x.told(7), 30);
        x.plan(-1, 0);
        due(x.ends(0), 30);
        due(x.ends(1), 0);
    }

    private static void booked() {
        Due.about("A BOOK told by hand: one, another one, a DEBT (0 .. 9999; 8 at most)");
        HandshakeBinds x = traders(3);
        x.owe(0, 1, 9999);
        due(x.book(0, 1, 9999), 1);
        due(x.book(0, 1, 10000), BAD);
        due(x.book(1, 0, -1), BAD);
        due(x.book(1, 0, 0), 2);
        due(x.looked(), LACKING);
        for (int row = 3; row <= 8; row++) {
            due(x.book(1, 2, 0), row);
        }
        due(x.book(1, 2, 1), FULL);
        due(x.count(4), 8);
        due(x.looked(), LACKING);

        Due.about("LOOKED at: the number (from 0) of the first of these rows that is otherwise (-5: none)");
        due(traders(0).looked(), LACKING);
        for (int first = 0; first < 8; first++) {
            x = traders(3);
            x.owe(1, 2, 44);
            for (int row = 0; row < 8; row++) {
                x.book(1, 2, row < first ? 44 : row % 2 == 0 ? 43 : 45);
            }
            due(x.looked(), first);
        }
        x.owe(1, 2, 43);
        due(x.looked(), 0);
    }

    private static void actsWrap() {
        Due.about("ACTS of one with x (wrapping)");
        // 10: x + i.
        HandshakeBinds x = with(0, 0, 0, 0, 0, 0);
        due(x.act(5, 0, MOST - 5), MOST);
        due(x.act(5, 0, MOST - 4), LEAST);
        due(x.act(5, 0, MOST), LEAST + 4);
        // 11: grips(x) - v, 12: twice that.
        x = new HandshakeBinds();
        x.trader(0, 9);
        due(x.act(0, 1, LEAST + 9), LEAST);
        due(x.act(0, 1, LEAST + 8), MOST);
        due(x.act(0, 2, (1 << 30) + 8), MOST - 1);
        due(x.act(0, 2, (1 << 30) + 9), LEAST);
        due(x.act(0, 2, LEAST + 9), 0);
        // 30: x * 3.
        x = with(2);
        due(x.act(0, 0, MOST / 3), MOST - 1);
        due(x.act(0, 0, MOST / 3 + 1), LEAST + 1);
        due(x.act(0, 0, LEAST), LEAST);
        // 50: -grips(x); there is no number for -LEAST but LEAST.
        x = with(4);
        due(x.act(0, 0, MOST), -MOST);
        due(x.act(0, 0, LEAST), LEAST);
        // 51: x + 1, by 50 then, ^ 6.
        due(x.act(0, 1, MOST), LEAST ^ 6);
        due(x.act(0, 1, MOST - 1), -MOST ^ 6);
        // 60: x - i.
        x = with(0, 5);
        due(x.act(1, 2, LEAST), (MOST * 3 + 1) * 2);
        // 40: both of its sums; 70: so, too.
        x = with(3);
        due(x.act(0, 2, MOST), -1);
        due(x.act(0, 2, 1 << 30), LEAST + 1);
        x = new HandshakeBinds();
        x.trader(6, 0);
        due(x.act(0, 1, MOST), LEAST + 1);
        due(x.act(0, 1, MOST - 2), MOST);

        Due.about("0, and no TRACE then: no such TRADER, act");
        x = with(0, 6);
        due(x.act(1, 2, 5), 23);
        due(x.count(6), 12);
        int[][] none = {{-1, 0}, {2, 0}, {0, -1}, {0, 3}, {LEAST, 0}, {MOST, 0}, {0, LEAST}, {0, MOST}, {6, 3}};
        for (int[] call : none) {
            x.act(1, 2, 5);
            due(x.count(6), 12);
            due(x.act(call[0], call[1], 9), 0);
            due(x.count(6), 0);
            for (int i = 0; i < 13; i++) {
                due(x.trace(i), NONE);
            }
        }
        due(x.act(0, 0, 9), 9);
        due(x.act(1, 2, 5), 23);
    }

    private static void trace() {
        Due.about("THE TRACE: the numbers of the bodies that ran in the latest act(), as they began");
        HandshakeBinds x = with(0, 6);
        due(x.trace(0), NONE);
        x.act(1, 2, 5);
        int[] bodies = {40, 12, 70, 11, 71, 10, 10, 70, 11, 71, 10, 10};
        for (int i = 0; i < bodies.length; i++) {
            due(x.trace(i), bodies[i]);
        }
        for (int i : new int[] {-1, 12, 13, 19, 20, 21, LEAST, MOST}) {
            due(x.trace(i), NONE);
        }
        // Of a longer one ahead of it nothing is left.
        x.act(0, 1, 5);
        due(x.count(6), 2);
        due(x.trace(0), 11);
        due(x.trace(1), 10);
        for (int i = 2; i < 13; i++) {
            due(x.trace(i), NONE);
        }
    }

    private static void image() {
        Due.about("THE IMAGE: TRADERS with all that is theirs, DAY, SEEN, the PLAN, the BOOK, which EXCHANGE holds");
        HandshakeBinds x = new HandshakeBinds();
        due(x.undo(), STATE);
        due(x.image(), 0);
        due(x.undo(), 0);
        // Empty, then full: each store as the image has it.
        for (int i = 0; i < 6; i++) {
            x.trader(6, 9);
        }
        passTo(x, 60);
        exchange(x, "bind 9");
        for (int i = 0; i < 5; i++) {
            x.see(0, 1, 0, 0, 0);
        }
        for (int i = 0; i < 10; i++) {
            x.plan(0, 0);
        }
        for (int i = 0; i < 8; i++) {
            x.book(0, 1, 0);
        }
        due(x.undo(), 0);
        int[] counts = {0, 1, 0, 0, 0};
        for (int what = 0; what < counts.length; what++) {
            due(x.count(what), counts[what]);
        }
        due(x.told(0), 0);
        due(x.told(1), 5);
        // Which holds: none again; the next one is number 1, and holds.
        due(exchange(x, "bind 8"), 1);
        due(x.told(1), 8);
        // Full, then empty.
        for (int i = 0; i < 6; i++) {
            due(x.trader(6, i), i);
            due(x.row(i, 3, 0), 0);
        }
        for (int i = 0; i < 5; i++) {
            due(x.see(0, 1, 0, 0, 0), i + 1);
        }
        for (int i = 0; i < 10; i++) {
            due(x.plan(0, 0), i + 1);
        }
        for (int i = 0; i < 8; i++) {
            due(x.book(0, 1, 0), i + 1);
        }
        due(x.image(), 6);
        x.see(-1, 0, 0, 0, 0);
        x.plan(-1, 0);
        x.book(-1, 0, 0);
        exchange(x, "bind 7");
        due(x.told(1), 7);
        due(x.undo(), 6);
        int[] full = {6, 3, 5, 10, 8};
        for (int what = 0; what < full.length; what++) {
            due(x.count(what), full[what]);
        }
        due(x.told(1), 8);
        due(x.see(0, 1, 0, 0, 0), FULL);
        due(x.plan(0, 0), FULL);
        due(x.book(0, 1, 0), FULL);
        due(x.trader(0, 0), FULL);
        due(x.undo(), 6);
        // None held then, and none does again, however many there are.
        HandshakeBinds none = traders(2);
        none.image();
        for (int i = 0; i <= 5; i++) {
            due(exchange(none, "firm 9 p=0;bind 5" + i), i);
            due(none.undo(), 2);
            due(none.count(1), i + 1);
            due(none.told(1), 5);
            due(none.reads(0, 1, 50, 0), 50);
        }
        // Six EXCHANGES stay six, whichever holds.
        for (int i = 3; i <= 5; i++) {
            due(exchange(x, "bind " + i), i);
        }
        due(x.undo(), 6);
        due(x.told(1), 8);
        due(exchange(x, "bind 1"), FULL);
        due(x.told(1), 8);
    }

    // ---- 3

    private static void tapes() {
        Due.about("TAPES 0 .. 5 hold nothing (at first), or a row");
        HandshakeBinds x = new HandshakeBinds();
        for (int tape = 0; tape <= 5; tape++) {
            due(x.read(tape, 0), NO);
            due(x.item(tape, 0, 1), NOTHING);
            due(x.shift(tape, 0, tape, 0, 0), NOTHING);
            due(x.tape(tape, tape % 5, 60), 1);
            due(x.read(tape, 0), 0);
            due(x.read(tape, 59), 0);
            due(x.read(tape, 60), NO);
            due(x.read(tape, -1), NO);
            due(x.item(tape, 59, 1), 1);
            due(x.read(tape, 59), 1);
            due(x.item(tape, 60, 1), PLACE);
            due(x.item(tape, -1, 1), PLACE);
        }
        for (int tape : new int[] {-1, 6, LEAST, MOST}) {
            due(x.tape(tape, 0, 1), NONE);
            due(x.item(tape, 0, 1), NONE);
            due(x.read(tape, 0), NO);
            due(x.judge(tape, 0), NONE);
            due(x.shift(tape, 0, 0, 0, 0), NONE);
            due(x.shift(0, 0, tape, 0, 0), NONE);
        }

        Due.about("0 bytes, 1 shorts, 2 ints, 3 longs, 4 booleans (items 0, 1)");
        long[][] least = {{-128, 127}, {-32768, 32767}, {LEAST, MOST}, {NO, Long.MAX_VALUE}};
        for (int sort = 0; sort <= 3; sort++) {
            x.tape(0, sort, 1);
            long low = least[sort][0];
            long high = least[sort][1];
            x.item(0, 0, low);
            due(x.read(0, 0), low);
            x.item(0, 0, high);
            due(x.read(0, 0), high);
            x.item(0, 0, high + 1);
            due(x.read(0, 0), low);
            x.item(0, 0, low - 1);
            due(x.read(0, 0), high);
        }
        x.tape(0, 4, 1);
        long[] values = {1, -1, 2, 256, 1L << 32, NO, Long.MAX_VALUE};
        for (long v : values) {
            x.item(0, 0, 0);
            due(x.read(0, 0), 0);
            x.item(0, 0, v);
            due(x.read(0, 0), 1);
        }

        Due.about("a row of n (0 .. 60); SIZE: a size below 0");
        for (int sort = 0; sort <= 4; sort++) {
            due(x.tape(1, sort, 0), 1);
            due(x.read(1, 0), NO);
            due(x.item(1, 0, 1), PLACE);
            due(x.shift(1, 0, 1, 0, 0), 0);
            due(x.tape(1, sort, 1), 1);
            due(x.read(1, 0), 0);
            due(x.tape(1, sort, 61), BAD);
            due(x.tape(1, sort, -1), SIZE);
            due(x.item(1, 0, 1), 1);
            due(x.item(1, 1, 1), PLACE);
        }
        for (int n : new int[] {0, -1, 61, LEAST, MOST}) {
            x.tape(1, 0, 2);
            due(x.tape(1, -1, n), 1);
            due(x.item(1, 0, 1), NOTHING);
        }
        // All 0, whatever was there, and of whatever sort.
        for (int sort = 0; sort <= 4; sort++) {
            x.tape(1, 3, 60);
            for (int i = 0; i < 60; i += 59) {
                x.item(1, i, -1);
            }
            due(x.tape(1, sort, 60), 1);
            due(x.read(1, 0), 0);
            due(x.read(1, 59), 0);
        }
    }

    private static HandshakeBinds balanced() {
        HandshakeBinds x = traders(3);
        x.owe(0, 1, 10);
        x.owe(0, 2, 4);
        x.tape(1, 2, 60);
        return x;
    }

    private static void balances(HandshakeBinds x, int tape, int from) {
        int[] due = {-14, 10, 4};
        for (int i = 0; i < 3; i++) {
            x.item(tape, from + i, due[i]);
        }
    }

    private static void judged() {
        Due.about("JUDGED: the first that is otherwise (counted from 0 from that place on); -5: none");
        int[] froms = {0, 1, 56, 57};
        for (int from : froms) {
            HandshakeBinds x = balanced();
            balances(x, 1, from);
            due(x.judge(1, from), LACKING);
            for (int i = 0; i < 3; i++) {
                balances(x, 1, from);
                x.item(1, from + i, 5);
                due(x.judge(1, from), i);
            }
            // The first of two.
            x.item(1, from + 1, 5);
            due(x.judge(1, from), 1);
        }

        Due.about("100 and how many were looked at, if the row ends ahead of that");
        HandshakeBinds x = balanced();
        x.item(1, 58, -14);
        x.item(1, 59, 10);
        due(x.judge(1, 58), 102);
        x.item(1, 59, -14);
        due(x.judge(1, 59), 101);
        due(x.judge(1, 60), 100);
        due(x.judge(1, 61), 100);
        due(x.judge(1, MOST), 100);
        due(x.judge(1, MOST - 1), 100);
        x.item(1, 58, 0);
        due(x.judge(1, 58), 0);
        x.tape(2, 2, 3);
        balances(x, 2, 0);
        due(x.judge(2, 0), LACKING);
        x.tape(2, 2, 2);
        x.item(2, 0, -14);
        x.item(2, 1, 10);
        due(x.judge(2, 0), 102);
        x.tape(2, 2, 0);
        due(x.judge(2, 0), 100);

        Due.about("(or the place is below 0, or the TAPE holds nothing)");
        due(x.judge(1, -1), 100);
        due(x.judge(1, LEAST), 100);
        due(x.judge(5, 0), 100);
        due(x.judge(5, -1), 100);
        due(x.judge(5, MOST), 100);

        Due.about("-5: there are no TRADERS (wherever the place is, also if the TAPE holds nothing)");
        x = new HandshakeBinds();
        x.tape(1, 2, 1);
        x.tape(2, 2, 0);
        for (int place : new int[] {0, 1, 2, -1, 60, LEAST, MOST}) {
            for (int tape = 0; tape <= 2; tape++) {
                due(x.judge(tape, place), LACKING);
            }
        }
        // The first TRADER changes that.
        x.trader(0, 0);
        due(x.judge(0, 0), 100);
        due(x.judge(1, 0), LACKING);
        due(x.judge(2, 0), 100);

        Due.about("CAST: it is no row of ints");
        for (int sort : new int[] {0, 1, 3, 4}) {
            x.tape(3, sort, 1);
            due(x.judge(3, 0), CAST);
            due(x.judge(3, -1), CAST);
            due(x.judge(3, 60), CAST);
        }
        x.tape(3, -1, 0);
        due(x.judge(3, 0), 100);
    }
}
