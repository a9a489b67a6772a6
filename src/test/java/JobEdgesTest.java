/** The edges of JOBS (promise 11). */
public final class JobEdgesTest {
    private static final String BASE = "coding u = 1 octets ; coding g = 1 octets signed ; coding f = 1 octets scale 1 / 3 plus 0 ; coding n = 1 octets scale - 1 / 3 plus 0 ;"
            + " coding q = 4 octets scale 999999 / 1 plus 999999 ; coding m = 4 octets scale - 999999 / 2 plus 0 ;"
            + " layer l { service s = 5 { param a : g ; param b : u when a = 1 ; } service r = 6 { param f : f ; param n : n ; }"
            + " service v = 7 { param q : q ; param m : m ; } service w = 8 { param k : u ; param g : u times k ; } } ";

    public static void main(String[] args) {
        stepsRange();
        stepsSpent();
        noSuchJob();
        emptyPile();
        wantsMore();
        laysA17th();
        sendsA65th();
        sentSoFar();
        sentIsEmptyFirst();
        lowest8Bits();
        lowerOneFirst();
        modulo();
        getValues();
        getTowardsSmaller();
        whiles();
        whileSteps();
        nestedWhiles();
        Due.done();
    }

    private static DescribeText with(String ops) {
        return Due.with(BASE + "job j { " + ops + " }");
    }

    private static void runs(String ops, long steps, int want, String sent, int... answer) {
        DescribeText x = with(ops);
        Due.tell(x, answer);
        Due.is("job(1, " + steps + ") of " + ops, x.job(1, steps), want);
        Due.is("SENT by " + ops, Due.sent(x), sent);
    }

    private static void stepsRange() {
        Due.sentence("-2 steps are not 0 .. 5000");
        DescribeText x = with("put 1 ; while { put 1 ; }");
        for (long steps : new long[] {Long.MIN_VALUE, -5000, -2, -1, 5001, 5002, 1L << 31, 1L << 32, (1L << 32) + 1, 1L << 63, Long.MAX_VALUE}) {
            Due.is("job(1, " + steps + ")", x.job(1, steps), -2);
        }
        for (long steps : new long[] {0, 1, 2, 4999, 5000}) {
            Due.is("job(1, " + steps + ")", x.job(1, steps), 0);
        }
    }

    private static void stepsSpent() {
        Due.sentence("1 it came to its end, 0 the steps were spent. Each OP is a step");
        runs("", 0, 1, "");
        runs("", 1, 1, "");
        String[] ops = {"put 5 ; ", "send ; ", "put 6 ; ", "dup ; ", "swap ; ", "add ; ", "put 2 ; ", "sub ; ", "put 3 ; ", "mul ; ", "get s a ; ", "drop ; ", "send ; "};
        String all = String.join("", ops);
        for (int steps = 0; steps <= ops.length + 1; steps++) {
            String sent = steps < 2 ? "" : steps < 13 ? "5" : "5 30";
            runs(all, steps, steps >= ops.length ? 1 : 0, sent);
        }
        runs(Due.many("put 1 ; drop ; ", 20), 39, 0, "");
        runs(Due.many("put 1 ; drop ; ", 20), 40, 1, "");
    }

    private static void noSuchJob() {
        Due.sentence("-1 there is no such JOB");
        for (int count = 0; count <= 4; count++) {
            DescribeText x = Due.with("layer l { } code 1 = n ; " + Due.many("job j# { }", count));
            for (int name : new int[] {Integer.MIN_VALUE, -1, 0, 1, 2, 3, 4, 5, 6, Integer.MAX_VALUE}) {
                boolean known = name >= 1 && name <= count;
                Due.is("job(" + name + ", 0) of " + count, x.job(name, 0), known ? 1 : -1);
                Due.is("job(" + name + ", 5000) of " + count, x.job(name, 5000), known ? 1 : -1);
                Due.is("job(" + name + ", -1) of " + count, x.job(name, -1), known ? -2 : -1);
                Due.is("job(" + name + ", 5001) of " + count, x.job(name, 5001), known ? -2 : -1);
            }
        }
        Due.is("job(1, 0) with nothing IN HAND", new DescribeText().job(1, 0), -1);
    }

    private static void emptyPile() {
        Due.sentence("on a PILE of numbers, at first empty");
        DescribeText x = Due.with("job a { put 1 ; put 2 ; } job b { drop ; } job c { put 7 ; drop ; drop ; }");
        Due.is("job(1, 9)", x.job(1, 9), 1);
        Due.is("job(2, 9)", x.job(2, 9), -3);
        Due.is("job(1, 9)", x.job(1, 9), 1);
        Due.is("job(3, 9)", x.job(3, 9), -3);
        Due.is("job(3, 9)", x.job(3, 9), -3);
        DescribeText y = Due.with("job a { " + Due.many("put 1 ; ", 16) + "}");
        for (int i = 0; i < 3; i++) {
            Due.is("job(1, 99) lays 16 each time", y.job(1, 99), 1);
        }
    }

    private static void wantsMore() {
        Due.sentence("-3 an OP wants more than the PILE has");
        String[] ops = {"put 1 ;", "get s a ;", "drop ;", "send ;", "dup ;", "while { }", "add ;", "sub ;", "mul ;", "swap ;"};
        int[] wants = {0, 0, 1, 1, 1, 1, 2, 2, 2, 2};
        for (int i = 0; i < ops.length; i++) {
            for (int have = 0; have <= 3; have++) {
                String text = "put 9 ; send ; " + Due.many("put 0 ; ", have) + ops[i] + " put 8 ; send ;";
                boolean can = have >= wants[i];
                runs(text, 99, can ? 1 : -3, can ? ops[i].equals("send ;") ? "9 0 8" : "9 8" : "9");
                runs(text, 2 + have, 0, "9");
            }
        }
    }

    private static void laysA17th() {
        Due.sentence("-3 an OP .. lays a 17th");
        String[] ops = {"put 1 ;", "get s a ;", "dup ;", "swap ;", "add ;", "sub ;", "mul ;", "drop ;", "send ;", "while { }"};
        for (int i = 0; i < ops.length; i++) {
            for (int have = 14; have <= 16; have++) {
                boolean can = have < 16 || i > 2;
                DescribeText x = with("put 9 ; send ; " + Due.many("put 0 ; ", have) + ops[i] + " put 8 ; ");
                boolean full = have == 15 && i <= 2 || have == 16 && i == 3;
                Due.is("job of " + have + " and " + ops[i], x.job(1, 999), can && !full ? 1 : -3);
                DescribeText y = with("put 9 ; send ; " + Due.many("put 0 ; ", have) + ops[i]);
                Due.is("job of " + have + " and only " + ops[i], y.job(1, 999), can ? 1 : -3);
                Due.is("SENT", Due.sent(y).substring(0, 1), "9");
            }
        }
        runs(Due.many("put # ; ", 16) + Due.many("send ; ", 16), 99, 1, "15 14 13 12 11 10 9 8 7 6 5 4 3 2 1 0");
        runs(Due.many("put # ; ", 16) + "put 1 ;", 16, 0, "");
        runs(Due.many("put # ; ", 16) + "put 1 ;", 17, -3, "");
    }

    private static String down(int from) {
        StringBuilder row = new StringBuilder();
        for (int i = from; i > 0; i--) {
            row.append(row.length() == 0 ? "" : " ").append(i);
        }
        return row.toString();
    }

    private static String downTo2(int from) {
        String row = down(from);
        return row.substring(0, row.length() - 2);
    }

    private static void sendsA65th() {
        Due.sentence("-4 sends a 65th octet: then it ends there (SENT is what this job sent so far)");
        String loop = "put # ; dup ; while { dup ; send ; put 1 ; sub ; dup ; }";
        runs(loop.replace("#", "63"), 5000, 1, down(63));
        runs(loop.replace("#", "64"), 5000, 1, down(64));
        runs(loop.replace("#", "65"), 5000, -4, downTo2(65));
        runs(loop.replace("#", "66"), 5000, -4, downTo2(66).substring(0, downTo2(66).length() - 2));
        // Two steps, then 64 rounds of six; the 65th send is step 2 + 64 * 6 + 3.
        runs(loop.replace("#", "65"), 2 + 64 * 6 + 2, 0, downTo2(65));
        runs(loop.replace("#", "65"), 2 + 64 * 6 + 3, -4, downTo2(65));
        // With 64 octets SENT and nothing on the PILE the send wants more than there is.
        runs(loop.replace("#", "64") + " drop ; send ;", 5000, -3, down(64));
        runs(loop.replace("#", "64") + " send ;", 5000, -4, down(64));
        runs(loop.replace("#", "64") + " put 1 ; drop ;", 5000, 1, down(64));
    }

    private static void sentSoFar() {
        Due.sentence("then it ends there (SENT is what this job sent so far)");
        runs("put 1 ; send ; put 2 ; send ; drop ; put 3 ; send ;", 99, -3, "1 2");
        runs("drop ; put 3 ; send ;", 99, -3, "");
        runs("put 1 ; send ; " + Due.many("put 0 ; ", 17) + "send ;", 99, -3, "1");
        runs("put 1 ; send ; put 2 ; send ;", 2, 0, "1");
    }

    private static void sentIsEmptyFirst() {
        Due.sentence("SENT is empty, then what it sends");
        DescribeText x = Due.with("coding u = 1 octets ; layer l { service s = 5 { param p : u ; } } job a { put 7 ; send ; } job b { drop ; } job c { }");
        for (int job = 1; job <= 3; job++) {
            for (long steps : new long[] {0, 5000}) {
                Due.is("encode(1, 1, 3)", x.encode(1, 1, 3), 1);
                int want = job == 3 ? 1 : steps == 0 ? 0 : job == 1 ? 1 : -3;
                Due.is("job(" + job + ", " + steps + ")", x.job(job, steps), want);
                Due.is("SENT", Due.sent(x), want == 1 && job == 1 ? "7" : "");
            }
        }
        Due.is("encode(1, 1, 3)", x.encode(1, 1, 3), 1);
        Due.is("job(4, 1)", x.job(4, 1), -1);
        Due.is("job(0, 1)", x.job(0, 1), -1);
        Due.is("job(1, -1)", x.job(1, -1), -2);
        Due.is("job(1, 5001)", x.job(1, 5001), -2);
        Due.is("a refused job changes nothing", Due.sent(x), "69 3");
        Due.is("job(1, 2)", x.job(1, 2), 1);
        Due.is("job(1, 2)", x.job(1, 2), 1);
        Due.is("SENT is of the last job alone", Due.sent(x), "7");
        Due.is("encode(1, 1, 4)", x.encode(1, 1, 4), 1);
        Due.is("encode is SENT behind a job", Due.sent(x), "69 4");
    }

    private static void lowest8Bits() {
        Due.sentence("send adds its lowest 8 bits to SENT");
        int[][] puts = {{0, 0}, {1, 1}, {127, 127}, {128, 128}, {255, 255}, {256, 0}, {257, 1}, {511, 255}, {65535, 255}, {65536, 0}, {999999, 63}};
        for (int[] put : puts) {
            runs("put " + put[0] + " ; send ;", 9, 1, "" + put[1]);
            runs("put - " + put[0] + " ; send ;", 9, 1, "" + (-put[1] & 255));
        }
    }

    private static void lowerOneFirst() {
        Due.sentence("add, sub, mul take two off and lay what comes of them (the lower one first; .. dup lays the upper one once more, swap changes the upper two");
        runs("put 100 ; put 7 ; sub ; send ;", 9, 1, "93");
        runs("put 7 ; put 100 ; sub ; send ;", 9, 1, "163");
        runs("put 1 ; put 100 ; put 7 ; sub ; send ; send ;", 9, 1, "93 1");
        runs("put 1 ; put 100 ; put 7 ; add ; send ; send ;", 9, 1, "107 1");
        runs("put 1 ; put 10 ; put 7 ; mul ; send ; send ;", 9, 1, "70 1");
        runs("put 1 ; put 2 ; put 3 ; swap ; send ; send ; send ;", 9, 1, "2 3 1");
        runs("put 1 ; put 2 ; dup ; send ; send ; send ;", 9, 1, "2 2 1");
        runs("put 1 ; put 2 ; drop ; send ;", 9, 1, "1");
        runs("put 1 ; put 2 ; send ; send ;", 9, 1, "2 1");
    }

    /** Whether what lies above is 0 after a while: it sends 1 if not. */
    private static void isZero(String ops, boolean zero) {
        runs(ops + " while { put 1 ; send ; put 0 ; } put 9 ; send ;", 99, 1, zero ? "9" : "1 9");
    }

    private static void modulo() {
        Due.sentence("modulo 2^64");
        String two32 = "put 65536 ; dup ; mul ; ";
        String two63 = two32 + "put 32768 ; mul ; put 65536 ; mul ; ";
        isZero(two32, false);
        isZero(two32 + "dup ; mul ;", true);
        isZero(two63, false);
        isZero(two63 + "dup ; add ;", true);
        isZero(two63 + "put 2 ; mul ;", true);
        isZero(two63 + "put - 2 ; mul ;", true);
        isZero(two63 + "put 3 ; mul ; " + two63 + "sub ;", true);
        isZero(two63 + "put 1 ; sub ; put 1 ; add ; " + two63 + "sub ;", true);
        isZero(two63 + "put 1 ; sub ; " + two63 + "sub ;", false);
        isZero(two63 + "put - 1 ; mul ; " + two63 + "sub ;", true);
        runs(two63 + "put 1 ; sub ; send ;", 99, 1, "255");
        runs("put 0 ; " + two63 + "sub ; put 1 ; add ; send ;", 99, 1, "1");
    }

    private static void getValues() {
        Due.sentence("get the VALUE of a parameter in the ANSWER (0 if it is not there)");
        runs("get s a ; send ; get s b ; send ;", 9, 1, "1 7", 69, 1, 7);
        runs("get s a ; send ; get s b ; send ;", 9, 1, "2 0", 69, 2, 7);
        runs("get s a ; send ; get s b ; send ;", 9, 1, "128 0", 69, 128, 7);
        runs("get s a ; send ; get s b ; send ;", 9, 1, "1 0", 69, 1);
        runs("get s a ; send ;", 9, 1, "0", 69);
        runs("get s a ; send ;", 9, 1, "0");
        runs("get s a ; send ;", 9, 1, "0", 70, 1);
        runs("get w g ; send ;", 9, 1, "11", 72, 2, 11, 12);
        runs("get w g ; send ;", 9, 1, "0", 72, 0, 11, 12);
        // One that is not there is 0 and not what its scale makes of 0.
        isZero("get v q ;", true);
        // The greatest VALUE: 4294967295 * 999999 + 999999 is 2^32 * 999999.
        DescribeText x = with("get v q ; put 65536 ; dup ; mul ; put 999999 ; mul ; sub ; while { put 1 ; send ; put 0 ; } put 9 ; send ;");
        Due.tell(x, 71, 255, 255, 255, 255);
        Due.is("job(1, 99)", x.job(1, 99), 1);
        Due.is("SENT", Due.sent(x), "9");
        DescribeText again = with("get s a ; send ; get s b ; send ; get s a ; send ;");
        Due.tell(again, 69, 1, 7);
        Due.is("job(1, 99)", again.job(1, 99), 1);
        Due.is("SENT", Due.sent(again), "1 7 1");
        Due.is("decode(1, 2, 0) behind it", again.decode(1, 2, 0), 7);
        Due.is("encode(1, 1, 1) behind it", again.encode(1, 1, 1), 1);
        Due.is("a get does not touch the RAWS", Due.sent(again), "69 1 0");
        Due.is("job(1, 99) behind encode", again.job(1, 99), 1);
        Due.is("an encode does not touch the ANSWER", Due.sent(again), "1 7 1");
    }

    private static void getTowardsSmaller() {
        Due.sentence("get the VALUE .. towards smaller ones");
        for (int raw = 0; raw <= 255; raw++) {
            runs("get r f ; send ; get r n ; send ;", 9, 1, raw / 3 + " " + (-((raw + 2) / 3) & 255), 70, raw, raw);
        }
        // 4294967295 * -999999 / 2 is no whole number, so it is one less than what is cut off.
        DescribeText x = with("get v m ; put 2 ; mul ; put 65536 ; dup ; mul ; put 1 ; sub ; put 999999 ; mul ; add ; send ;");
        Due.tell(x, 71, 0, 0, 0, 0, 255, 255, 255, 255);
        Due.is("job(1, 99)", x.job(1, 99), 1);
        Due.is("SENT", Due.sent(x), "255");
    }

    private static void whiles() {
        Due.sentence("while takes one off: with 0 it goes on behind its }, otherwise with its OPS, and behind these with the while again");
        runs("put 0 ; while { put 1 ; send ; } put 9 ; send ;", 99, 1, "9");
        runs("put 1 ; while { put 1 ; send ; put 0 ; } put 9 ; send ;", 99, 1, "1 9");
        runs("put - 1 ; while { put 1 ; send ; put 0 ; } put 9 ; send ;", 99, 1, "1 9");
        runs("put 999999 ; while { put 1 ; send ; put 0 ; } put 9 ; send ;", 99, 1, "1 9");
        runs("put 256 ; while { put 1 ; send ; put 0 ; } put 9 ; send ;", 99, 1, "1 9");
        runs("put 65536 ; dup ; mul ; while { put 1 ; send ; put 0 ; } put 9 ; send ;", 99, 1, "1 9");
        runs("put 3 ; dup ; while { dup ; send ; put 1 ; sub ; dup ; } put 9 ; send ;", 99, 1, "3 2 1 9");
        runs("put 0 ; put 1 ; put 1 ; while { } put 9 ; send ;", 99, 1, "9");
        runs("put 1 ; while { } put 9 ; send ;", 99, -3, "");
        runs("put 7 ; put 0 ; while { } send ;", 99, 1, "7");
    }

    private static void whileSteps() {
        Due.sentence("Each OP (a while each time that it takes one off) is a step");
        runs("put 0 ; while { put 1 ; }", 1, 0, "");
        runs("put 0 ; while { put 1 ; }", 2, 1, "");
        runs("put 0 ; put 1 ; while { }", 3, 0, "");
        runs("put 0 ; put 1 ; while { }", 4, 1, "");
        runs("put 1 ; while { put 0 ; }", 3, 0, "");
        runs("put 1 ; while { put 0 ; }", 4, 1, "");
        for (int rounds : new int[] {1, 2, 100, 1249}) {
            String loop = "put " + rounds + " ; dup ; while { put 1 ; sub ; dup ; }";
            runs(loop, 2 + 4 * rounds, 0, "");
            runs(loop, 3 + 4 * rounds, 1, "");
        }
        runs("put 1249 ; dup ; while { put 1 ; sub ; dup ; } drop ;", 5000, 1, "");
        runs("put 1249 ; dup ; while { put 1 ; sub ; dup ; } drop ; put 1 ;", 5000, 0, "");
    }

    private static void nestedWhiles() {
        Due.sentence("with 0 it goes on behind its }, otherwise with its OPS, and behind these with the while again");
        String inner = "put 2 ; dup ; while { dup ; send ; put 1 ; sub ; dup ; } drop ; ";
        String middle = "put 2 ; dup ; while { dup ; send ; " + inner + "put 1 ; sub ; dup ; } drop ; ";
        runs("put 2 ; dup ; while { dup ; send ; " + middle + "put 1 ; sub ; dup ; } drop ; put 9 ; send ;", 5000, 1, "2 2 2 1 1 2 1 1 2 2 1 1 2 1 9");
        runs("put 1 ; while { put 0 ; while { put 1 ; send ; } put 0 ; while { put 2 ; send ; } put 3 ; send ; put 0 ; }", 99, 1, "3");
        runs("put 0 ; put 0 ; put 1 ; while { while { put 7 ; send ; put 0 ; } } put 8 ; send ;", 99, 1, "8");
        runs("put 0 ; while { while { while { } } } put 8 ; send ;", 99, 1, "8");
        runs("put 1 ; while { put 1 ; while { put 1 ; while { put 5 ; send ; put 0 ; } put 6 ; send ; put 0 ; } put 7 ; send ; put 0 ; } put 8 ; send ;", 99, 1, "5 6 7 8");
    }
}
