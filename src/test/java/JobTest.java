/** Promise 11: JOBS. */
public final class JobTest {
    private static final String BASE = "coding u = 1 octets ; coding g = 1 octets signed ; coding f = 1 octets scale 1 / 2 plus - 3 ;"
            + " layer l { service s = 5 { param a : g ; param b : f ; param c : u when a = 1 ; } } layer m { service s = 6 { param a : u ; } } ";

    public static void main(String[] args) {
        ops();
        gets();
        whiles();
        steps();
        pile();
        sending();
        refusals();
        Due.done();
    }

    private static void runs(String ops, long steps, int want, String sent, int... answer) {
        DescribeText x = Due.with(BASE + "job j { " + ops + " }");
        Due.tell(x, answer);
        Due.is("job(1, " + steps + ") of " + ops, x.job(1, steps), want);
        Due.is("SENT by " + ops, Due.sent(x), sent);
    }

    private static void ops() {
        runs("put 7 ; send ;", 2, 1, "7");
        runs("put - 1 ; send ; put 256 ; send ; put 511 ; send ;", 99, 1, "255 0 255");
        runs("put 7 ; put 3 ; sub ; send ;", 99, 1, "4");
        runs("put 3 ; put 7 ; sub ; send ;", 99, 1, "252");
        runs("put 7 ; put 3 ; add ; send ;", 99, 1, "10");
        runs("put 7 ; put - 3 ; mul ; send ;", 99, 1, "235");
        runs("put 7 ; dup ; send ; send ;", 99, 1, "7 7");
        runs("put 7 ; put 3 ; swap ; send ; send ;", 99, 1, "7 3");
        runs("put 7 ; put 3 ; drop ; send ;", 99, 1, "7");
        runs("put 7 ; put 3 ; put 2 ; add ; sub ; send ;", 99, 1, "2");
        // 2^64 is 0: a while that meets it goes on behind its }
        runs("put 65536 ; dup ; mul ; dup ; mul ; while { put 1 ; send ; put 0 ; } put 9 ; send ;", 99, 1, "9");
        runs("put 65536 ; dup ; mul ; put 32768 ; mul ; put 65536 ; mul ; while { put 1 ; send ; put 0 ; } put 9 ; send ;", 99, 1, "1 9");
    }

    private static void gets() {
        runs("get s a ; send ; get s b ; send ; get s c ; send ;", 99, 1, "1 254 9", 69, 1, 2, 9);
        runs("get s a ; send ; get s b ; send ; get s c ; send ;", 99, 1, "255 254 0", 69, 255, 2, 9);
        runs("get s b ; send ;", 99, 1, "253", 69, 1, 0);
        runs("get s b ; send ;", 99, 1, "253", 69, 1, 1);
        runs("get s b ; send ;", 99, 1, "255", 69, 1, 5);
        runs("get s b ; send ;", 99, 1, "0", 69, 1, 6);
        runs("get s b ; send ;", 99, 1, "0", 69, 1, 7);
        runs("get s b ; send ;", 99, 1, "0", 69, 1);
        runs("get s a ; send ;", 99, 1, "0", 70, 5);
        runs("get s a ; send ;", 99, 1, "0");
        DescribeText x = Due.with(BASE + "variant m = 1 ; job j { get s a ; send ; }");
        Due.is("variant(1)", x.variant(1), 2);
        Due.tell(x, 69, 8);
        Due.is("job(1, 9)", x.job(1, 9), 1);
        Due.is("a service is the first one of all, whatever is IN USE", Due.sent(x), "8");
    }

    private static void whiles() {
        String count = "put 3 ; dup ; while { dup ; send ; put 1 ; sub ; dup ; } put 9 ; send ;";
        runs(count, 99, 1, "3 2 1 9");
        runs("put 0 ; while { put 1 ; send ; } put 9 ; send ;", 99, 1, "9");
        runs("put 0 ; put 5 ; put 5 ; while { } put 9 ; send ;", 7, 0, "");
        runs("put 0 ; put 5 ; put 5 ; while { } put 9 ; send ;", 8, 1, "9");
        runs("put 2 ; dup ; while { put 3 ; dup ; while { dup ; send ; put 1 ; sub ; dup ; } drop ; put 1 ; sub ; dup ; }", 999, 1, "3 2 1 3 2 1");
        runs("put 1 ; dup ; while { drop ; put 0 ; put 1 ; while { while { put 7 ; send ; put 0 ; } put 0 ; } put 0 ; put 0 ; }", 16, 1, "");
        runs("put 0 ; put 0 ; put 1 ; put 1 ; while { while { put 7 ; send ; put 0 ; } } put 8 ; send ;", 999, 1, "7 8");
        runs("put 1 ; while { put 1 ; }", 5000, 0, "");
        runs("put - 1 ; while { put 5 ; send ; put 0 ; }", 6, 1, "5");
        runs("while { }", 99, -3, "");
    }

    private static void steps() {
        runs("", 0, 1, "");
        runs("", 5000, 1, "");
        runs("put 1 ;", 0, 0, "");
        runs("put 1 ;", 1, 1, "");
        runs("put 1 ; send ; put 2 ; send ;", 2, 0, "1");
        runs("put 1 ; send ; put 2 ; send ;", 3, 0, "1");
        runs("put 1 ; send ; put 2 ; send ;", 4, 1, "1 2");
        runs("drop ;", 0, 0, "");
        runs("put 0 ; while { }", 1, 0, "");
        runs("put 0 ; while { }", 2, 1, "");
        runs("put 0 ; put 1 ; while { }", 3, 0, "");
        runs("put 0 ; put 1 ; while { }", 4, 1, "");
        runs("put 1 ; while { put 1 ; }", 4999, 0, "");
        // a round is while, put, sub, dup, and the last while takes the 0
        String rounds = "put 999 ; dup ; while { put 1 ; sub ; dup ; }";
        runs(rounds, 2 + 999 * 4 + 1, 1, "");
        runs(rounds, 2 + 999 * 4, 0, "");
        runs("put 1249 ; dup ; while { put 1 ; sub ; dup ; }", 5000, 1, "");
        runs("put 1250 ; dup ; while { put 1 ; sub ; dup ; }", 5000, 0, "");
    }

    private static void pile() {
        for (String op : new String[] {"drop ;", "send ;", "dup ;", "while { }", "add ;", "sub ;", "mul ;", "swap ;",
            "put 1 ; add ;", "put 1 ; sub ;", "put 1 ; mul ;", "put 1 ; swap ;"}) {
            runs("put 5 ; send ; " + op + " put 6 ; send ;", 99, -3, "5");
        }
        String sixteen = Due.many("put # ; ", 16);
        runs(sixteen + "send ;", 99, 1, "15");
        runs("put 5 ; send ; " + sixteen + "put 1 ; send ;", 99, -3, "5");
        runs("put 5 ; send ; " + sixteen + "dup ; send ;", 99, -3, "5");
        runs("put 5 ; send ; " + sixteen + "get s a ; send ;", 99, -3, "5");
        runs(sixteen + "swap ; send ; send ;", 99, 1, "14 15");
        runs(sixteen + "add ; put 9 ; send ; send ;", 99, 1, "9 29");
        runs(sixteen + "put 1 ;", 16, 0, "");
        runs("put 5 ; send ; drop ;", 2, 0, "5");
        DescribeText x = Due.with("job a { put 1 ; put 2 ; } job b { drop ; }");
        Due.is("job(1, 9)", x.job(1, 9), 1);
        Due.is("each job has an empty PILE: job(2, 9)", x.job(2, 9), -3);
        Due.is("job(1, 9) once more", x.job(1, 9), 1);
    }

    private static void sending() {
        String loop = "put # ; dup ; while { dup ; send ; put 1 ; sub ; dup ; }";
        StringBuilder all = new StringBuilder();
        for (int i = 64; i > 0; i--) {
            all.append(all.length() == 0 ? "" : " ").append(i);
        }
        runs(loop.replace("#", "64"), 5000, 1, all.toString());
        runs(loop.replace("#", "65"), 5000, -4, "65 " + all.substring(0, all.length() - 2));
        DescribeText x = Due.with("coding u = 1 octets ; layer l { service s = 5 { param p : u ; } } job j { put 7 ; send ; } job k { drop ; } job e { }");
        Due.is("encode(1, 1, 3)", x.encode(1, 1, 3), 1);
        Due.is("job(4, 9)", x.job(4, 9), -1);
        Due.is("SENT stays", Due.sent(x), "69 3");
        Due.is("job(1, -1)", x.job(1, -1), -2);
        Due.is("SENT stays again", Due.sent(x), "69 3");
        Due.is("job(1, 0)", x.job(1, 0), 0);
        Due.is("SENT is empty", Due.sent(x), "");
        Due.is("job(1, 2)", x.job(1, 2), 1);
        Due.is("job(2, 9)", x.job(2, 9), -3);
        Due.is("SENT is empty again", Due.sent(x), "");
        Due.is("job(1, 2)", x.job(1, 2), 1);
        Due.is("job(3, 2)", x.job(3, 2), 1);
        Due.is("SENT is empty by an empty job", Due.sent(x), "");
        // A send on an empty PILE wants more than the PILE has, even when there is no room.
        runs("put 64 ; dup ; while { dup ; send ; put 1 ; sub ; dup ; } drop ; send ;", 5000, -3, all.toString());
    }

    private static void refusals() {
        DescribeText x = Due.with("job j { }");
        for (int name : new int[] {0, 2, -1, Integer.MAX_VALUE, Integer.MIN_VALUE}) {
            Due.is("job(" + name + ", 0)", x.job(name, 0), -1);
            Due.is("job(" + name + ", -1)", x.job(name, -1), -1);
        }
        for (long steps : new long[] {-1, 5001, Long.MAX_VALUE, Long.MIN_VALUE, 1L << 32}) {
            Due.is("job(1, " + steps + ")", x.job(1, steps), -2);
        }
        Due.is("job(1, 5000)", x.job(1, 5000), 1);
    }
}
