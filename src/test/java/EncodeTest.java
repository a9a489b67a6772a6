/** Promises 8 and 9: what is SENT by RAWS. */
public final class EncodeTest {
    private static final String CODINGS = "coding u = 1 octets ; coding g = 1 octets signed ; coding w = 2 octets ; coding h = 2 octets signed ;"
            + " coding t = 3 octets ; coding q = 4 octets ; coding i = 4 octets signed ; coding f = 2 octets scale 5 / 10 plus - 40 ;"
            + " coding n = 1 octets scale - 6 / 4 plus 2 ; coding o = 1 octets scale 0 / 7 plus 3 ; coding m = 4 octets scale 999999 / 1 plus 5 ;"
            + " coding k = 1 octets { 0 off ; 1 on ; } ";

    public static void main(String[] args) {
        ranges();
        scales();
        farValues();
        remembered();
        hangingOnes();
        groupsBehind();
        room();
        refusals();
        Due.done();
    }

    private static DescribeText with(String parameters) {
        return Due.with(CODINGS + "layer l { service s = 5 { " + parameters + " } }");
    }

    private static void value(String coding, long v, String want) {
        DescribeText x = with("param p : " + coding + " ;");
        Due.is("encode(1, 1, " + v + ") of " + coding, x.encode(1, 1, v), want.isEmpty() ? 0 : 1);
        Due.is("SENT by " + v + " of " + coding, Due.sent(x), want.isEmpty() ? "" : "69 " + want);
    }

    private static void ranges() {
        value("u", 0, "0");
        value("u", 255, "255");
        value("u", 256, "");
        value("u", -1, "");
        value("g", -1, "255");
        value("g", -128, "128");
        value("g", -129, "");
        value("g", 127, "127");
        value("g", 128, "");
        value("w", 65535, "255 255");
        value("w", 65536, "");
        value("h", -32768, "128 0");
        value("h", 32768, "");
        value("t", 0x010203, "1 2 3");
        value("t", 1 << 24, "");
        value("q", 4294967295L, "255 255 255 255");
        value("q", 4294967296L, "");
        value("q", -1, "");
        value("i", -2147483648L, "128 0 0 0");
        value("i", 2147483647, "127 255 255 255");
        value("i", 2147483648L, "");
        value("i", -2147483649L, "");
        value("k", 200, "200");
        value("k", 256, "");
    }

    private static void scales() {
        value("f", -40, "0 0");
        value("f", -39, "0 2");
        value("f", -41, "");
        value("f", 32727, "255 254");
        value("f", 32728, "");
        value("n", 2, "0");
        value("n", -1, "2");
        value("n", 1, "");
        value("n", 5, "");
        value("n", -379, "254");
        value("n", -382, "");
        value("o", 3, "");
        value("o", 0, "");
        value("m", 5, "0 0 0 0");
        value("m", 1000004, "0 0 0 1");
        value("m", 4294967295L * 999999 + 5, "255 255 255 255");
        value("m", 4294967296L * 999999 + 5, "");
        value("m", 4294967295L * 999999 + 4, "");
    }

    private static void farValues() {
        long[] far = {Long.MAX_VALUE, Long.MIN_VALUE, Long.MIN_VALUE + 5, Long.MAX_VALUE - 39, 1L << 32, 1L << 62, -1L << 40,
            5124095576030431L, (1L << 60) + 5};
        for (long v : far) {
            for (String coding : new String[] {"u", "g", "q", "i", "f", "n", "o", "k"}) {
                value(coding, v, "");
            }
        }
        DescribeText wrap = Due.with("coding a = 4 octets scale 1 / 524288 plus 0 ; layer l { service s = 5 { param p : a ; } }");
        Due.is("a VALUE whose product wraps round to 0", wrap.encode(1, 1, 1L << 45), 0);
        Due.is("a VALUE whose product wraps round to 524288", wrap.encode(1, 1, (1L << 45) + 1), 0);
        Due.is("8191 is the most", wrap.encode(1, 1, 8191), 1);
        Due.is("SENT", Due.sent(wrap), "69 255 248 0 0");
        Due.is("8192 is too much", wrap.encode(1, 1, 8192), 0);
        for (long v : new long[] {Long.MIN_VALUE, Long.MAX_VALUE, -1L << 62, 1L << 62, -1L << 45, -1}) {
            Due.is("encode(1, 1, " + v + ") over 524288", wrap.encode(1, 1, v), 0);
        }
    }

    private static void remembered() {
        DescribeText x = Due.with(CODINGS + "layer l { service s = 5 { param a : u ; param b : w ; } service t = 191 { param a : u ; } }");
        Due.is("encode(1, 2, 258)", x.encode(1, 2, 258), 1);
        Due.is("SENT", Due.sent(x), "69 0 1 2");
        Due.is("encode(2, 1, 7)", x.encode(2, 1, 7), 1);
        Due.is("SENT of the other service", Due.sent(x), "255 7");
        Due.is("encode(1, 1, 9)", x.encode(1, 1, 9), 1);
        Due.is("SENT with both", Due.sent(x), "69 9 1 2");
        Due.is("encode(1, 1, 256)", x.encode(1, 1, 256), 0);
        Due.is("SENT has not changed", Due.sent(x), "69 9 1 2");
        Due.is("encode(1, 2, 1)", x.encode(1, 2, 1), 1);
        Due.is("the RAW has not changed", Due.sent(x), "69 9 0 1");
        Due.is("encode(2, 1, -1)", x.encode(2, 1, -1), 0);
        Due.is("a 0 does not send the other service", Due.sent(x), "69 9 0 1");
        Due.tell(x, 69, 5);
        Due.is("decode(1, 1, 0) between", x.decode(1, 1, 0), 5);
        Due.is("encode(1, 2, 2)", x.encode(1, 2, 2), 1);
        Due.is("decode does not touch the RAWS", Due.sent(x), "69 9 0 2");
        Due.is("encode does not touch the ANSWER", x.decode(1, 1, 0), 5);
    }

    private static void hangingOnes() {
        DescribeText x = with("param a : g ; param b : u when a = 3 ; param c : w times a ; param d : u times b ; param e : u when b = 1 ; param f : u ;");
        Due.is("encode(1, 2, 1)", x.encode(1, 2, 1), 1);
        Due.is("SENT without b", Due.sent(x), "69 0 0");
        Due.is("encode(1, 5, 77)", x.encode(1, 5, 77), 1);
        Due.is("SENT without e", Due.sent(x), "69 0 0");
        Due.is("encode(1, 3, 258)", x.encode(1, 3, 258), 1);
        Due.is("encode(1, 4, 44)", x.encode(1, 4, 44), 1);
        Due.is("encode(1, 6, 66)", x.encode(1, 6, 66), 1);
        Due.is("SENT with none of them", Due.sent(x), "69 0 66");
        Due.is("encode(1, 1, 3)", x.encode(1, 1, 3), 1);
        Due.is("SENT with all", Due.sent(x), "69 3 1 1 2 0 0 0 0 44 77 66");
        Due.is("encode(1, 1, -1)", x.encode(1, 1, -1), 1);
        Due.is("SENT with fewer than none", Due.sent(x), "69 255 66");
        Due.is("encode(1, 1, 2)", x.encode(1, 1, 2), 1);
        Due.is("SENT with two", Due.sent(x), "69 2 1 2 0 0 66");
        Due.is("encode(1, 1, 100)", x.encode(1, 1, 100), 1);
        Due.is("SENT with eight at most", Due.sent(x), "69 100 1 2 0 0 0 0 0 0 0 0 0 0 0 0 0 0 66");
    }

    private static void groupsBehind() {
        DescribeText x = with("param a : u ; param b : h times a ; param c : g times a ;");
        Due.is("encode(1, 1, 3)", x.encode(1, 1, 3), 1);
        Due.is("encode(1, 2, -2)", x.encode(1, 2, -2), 1);
        Due.is("encode(1, 3, -1)", x.encode(1, 3, -1), 1);
        Due.is("groups behind the first one have 0", Due.sent(x), "69 3 255 254 0 0 0 0 255 0 0");
    }

    private static void room() {
        DescribeText x = with("param a : u ; param b : q times a ; param c : q times a ; param d : q ; param e : u ; param f : u ; param h : u ;");
        Due.is("encode(1, 1, 7)", x.encode(1, 1, 7), 1);
        Due.is("64 octets", Due.sent(x), "69 7 " + Due.row(0, 62, 0));
        Due.is("encode(1, 6, 9)", x.encode(1, 6, 9), 1);
        Due.is("the 64th octet", x.out(63), 9);
        Due.is("encode(1, 7, 9): none behind", x.encode(1, 7, 9), 1);
        Due.is("out(64) throws", Due.outThrows(x, 64) ? 1 : 0, 1);
        DescribeText y = with("param a : u ; param b : q times a ; param c : q times a ; param d : u when c = 0 ; param e : u ;");
        Due.is("encode(1, 1, 8)", y.encode(1, 1, 8), 1);
        Due.is("none behind the one without room", Due.sent(y), "69 8 " + Due.row(0, 32, 0));
    }

    private static void refusals() {
        DescribeText x = with("param a : u ;");
        Due.is("encode(1, 1, 5)", x.encode(1, 1, 5), 1);
        for (int i : new int[] {0, 2, -1, Integer.MAX_VALUE, Integer.MIN_VALUE}) {
            Due.is("encode(" + i + ", 1, 0)", x.encode(i, 1, 0), -1);
            Due.is("encode(1, " + i + ", 0)", x.encode(1, i, 0), -1);
        }
        Due.is("SENT", Due.sent(x), "69 5");
    }
}
