import java.math.BigInteger;

/** The edges of encode and out (promises 8 and 9). */
public final class EncodeEdgesTest {
    private static final String CODINGS = "coding u = 1 octets ; coding w = 2 octets ; coding t = 3 octets ; coding q = 4 octets ;"
            + " coding g = 1 octets signed ; coding h = 2 octets signed ; coding k = 3 octets signed ; coding i = 4 octets signed ; ";

    public static void main(String[] args) {
        octetsCanHave();
        tableCanHave();
        scales();
        firstVIs0();
        wrapsRound();
        nothingChanges();
        remembered();
        atFirst0();
        asFarAsTheyAreThere();
        moreThan64();
        groupsBehind();
        noService();
        outBeforeAndBehind();
        Due.done();
    }

    private static DescribeText with(String parameters) {
        return Due.with(CODINGS + "layer l { service s = 5 { " + parameters + " } }");
    }

    private static String octets(long raw, int width) {
        StringBuilder row = new StringBuilder("69");
        for (int i = width - 1; i >= 0; i--) {
            row.append(' ').append(raw >> 8 * i & 255);
        }
        return row.toString();
    }

    private static void octetsCanHave() {
        Due.sentence("1, or 0 if there is none that its octets can have");
        String[] codings = {"u", "w", "t", "q", "g", "h", "k", "i"};
        for (int c = 0; c < codings.length; c++) {
            int width = 1 + c % 4;
            long lowest = c < 4 ? 0 : -1L << 8 * width - 1;
            long highest = lowest + (1L << 8 * width) - 1;
            long[] values = {0, 1, -1, lowest - 256, lowest - 1, lowest, lowest + 1, highest - 1, highest, highest + 1, highest + 256,
                1L << 31, 1L << 32, 1L << 33, -1L << 31, -1L << 32, Long.MAX_VALUE, Long.MIN_VALUE};
            for (long v : values) {
                DescribeText x = with("param p : " + codings[c] + " ;");
                boolean can = v >= lowest && v <= highest;
                Due.is("encode(1, 1, " + v + ") of " + codings[c], x.encode(1, 1, v), can ? 1 : 0);
                Due.is("SENT by " + v + " of " + codings[c], Due.sent(x), can ? octets(v, width) : "");
            }
        }
    }

    private static void tableCanHave() {
        Due.sentence("1, or 0 if there is none that its octets can have");
        for (long v : new long[] {-1, 0, 1, 2, 127, 128, 255, 256}) {
            DescribeText x = Due.with("coding c = 1 octets { 1 on ; 256 far ; } layer l { service s = 5 { param p : c ; } }");
            boolean can = v >= 0 && v <= 255;
            Due.is("encode(1, 1, " + v + ") of a TABLE", x.encode(1, 1, v), can ? 1 : 0);
            Due.is("SENT by " + v + " of a TABLE", Due.sent(x), can ? "69 " + v : "");
        }
    }

    private static String signed(long v) {
        return v < 0 ? "- " + -v : "" + v;
    }

    private static DescribeText scaled(int width, long times, long over, long plus) {
        return Due.with("coding c = " + width + " octets scale " + signed(times) + " / " + over + " plus " + signed(plus)
                + " ; layer l { service s = 5 { param p : c ; } }");
    }

    /** What is due by numbers of any size. */
    private static void scale(int width, long times, long over, long plus, long v) {
        BigInteger product = BigInteger.valueOf(v).subtract(BigInteger.valueOf(plus)).multiply(BigInteger.valueOf(over));
        BigInteger[] parts = product.divideAndRemainder(BigInteger.valueOf(times));
        boolean can = parts[1].signum() == 0 && parts[0].signum() >= 0 && parts[0].bitLength() <= 8 * width;
        DescribeText x = scaled(width, times, over, plus);
        String scale = width + " octets, " + times + " / " + over + " plus " + plus;
        Due.is("encode(1, 1, " + v + ") with " + scale, x.encode(1, 1, v), can ? 1 : 0);
        Due.is("SENT by " + v + " with " + scale, Due.sent(x), can ? octets(parts[0].longValue(), width) : "");
    }

    private static void scales() {
        Due.sentence("The RAW by which a parameter has a VALUE (RAW is whole");
        long[] vs = {1, -1, 2, -3, 10, 999998, 999999, -999999};
        long[] overs = {1, 2, 3, 10, 65536, 999999};
        for (long times : vs) {
            for (long over : overs) {
                for (long plus : new long[] {0, 1, -40, 999999, -999999}) {
                    for (int width = 1; width <= 4; width++) {
                        long last = (1L << 8 * width) - 1;
                        long most = last * times / over + plus;
                        for (long v = -2; v <= 2; v++) {
                            scale(width, times, over, plus, plus + v);
                            scale(width, times, over, plus, most + v);
                        }
                    }
                }
            }
        }
        scale(4, 999999, 1, 999999, 4294967295L * 999999 + 999999);
        scale(4, 999999, 1, 999999, 4294967296L * 999999 + 999999);
        scale(4, -999999, 1, -999999, -4294967295L * 999999 - 999999);
        scale(4, -999999, 1, -999999, -4294967296L * 999999 - 999999);
    }

    private static void firstVIs0() {
        Due.sentence("then nothing changes; so it is when the first V is 0");
        for (long v : new long[] {-1, 0, 1, 2, 3, 4, 7, 21, Long.MAX_VALUE, Long.MIN_VALUE}) {
            for (String zero : new String[] {"0", "- 0", "000000"}) {
                DescribeText x = Due.with("coding u = 1 octets ; coding c = 1 octets scale " + zero + " / 7 plus 3 ;"
                        + " layer l { service s = 5 { param p : u ; param q : c ; } }");
                Due.is("encode(1, 1, 9)", x.encode(1, 1, 9), 1);
                Due.is("encode(1, 2, " + v + ") with scale 0", x.encode(1, 2, v), 0);
                Due.is("SENT", Due.sent(x), "69 9 0");
            }
        }
    }

    private static void wrapsRound() {
        Due.sentence("0 if there is none that its octets can have");
        long[] far = {Long.MAX_VALUE, Long.MAX_VALUE - 1, Long.MIN_VALUE, Long.MIN_VALUE + 1, 1L << 62, -1L << 62, 1L << 63 - 19, 1L << 64 - 16, 1L << 44, 1L << 45,
            (1L << 48) + 1, (1L << 45) + 1, 1L << 56, (1L << 56) + 5, -1L << 56, Long.MAX_VALUE - 999999, Long.MIN_VALUE + 999999, Long.MAX_VALUE / 999999,
            Long.MAX_VALUE / 999999 + 1, Long.MIN_VALUE / 999999, Long.MIN_VALUE / 999999 - 1, 10000000000000000L, -10000000000000000L};
        for (long v : far) {
            for (int width : new int[] {1, 4}) {
                for (long times : new long[] {1, -1, 2, 999999, -999999}) {
                    for (long over : new long[] {1, 256, 65536, 262144, 524288, 999999}) {
                        scale(width, times, over, 0, v);
                        scale(width, times, over, 999999, v);
                        scale(width, times, over, -999999, v);
                    }
                }
            }
        }
    }

    private static void nothingChanges() {
        Due.sentence("0 if there is none .. then nothing changes");
        DescribeText x = Due.with(CODINGS + "layer l { service s = 5 { param a : u ; param b : w ; } service r = 6 { param a : u ; } }");
        Due.is("encode(2, 1, -1)", x.encode(2, 1, -1), 0);
        Due.is("SENT is none yet", Due.sent(x), "");
        Due.is("encode(1, 1, 7)", x.encode(1, 1, 7), 1);
        Due.is("encode(1, 1, 256)", x.encode(1, 1, 256), 0);
        Due.is("encode(1, 2, 65536)", x.encode(1, 2, 65536), 0);
        Due.is("encode(2, 1, 256)", x.encode(2, 1, 256), 0);
        Due.is("SENT stays", Due.sent(x), "69 7 0 0");
        Due.is("encode(1, 2, 1)", x.encode(1, 2, 1), 1);
        Due.is("the RAW stays", Due.sent(x), "69 7 0 1");
    }

    private static void remembered() {
        Due.sentence("For each service the RAWS are remembered");
        DescribeText x = Due.with(CODINGS + "layer l { service s = 5 { param a : u ; param b : u ; } } layer m { service s = 5 { param a : u ; param b : u ; } }");
        Due.is("encode(1, 1, 1)", x.encode(1, 1, 1), 1);
        Due.is("encode(2, 1, 2)", x.encode(2, 1, 2), 1);
        Due.is("SENT of service 2", Due.sent(x), "69 2 0");
        Due.is("encode(1, 2, 3)", x.encode(1, 2, 3), 1);
        Due.is("SENT of service 1", Due.sent(x), "69 1 3");
        Due.is("encode(2, 2, 4)", x.encode(2, 2, 4), 1);
        Due.is("SENT of service 2", Due.sent(x), "69 2 4");
        Due.is("encode(1, 1, 0)", x.encode(1, 1, 0), 1);
        Due.is("SENT of service 1 with 0 again", Due.sent(x), "69 0 3");
        Due.tell(x, 69, 50, 51);
        Due.is("decode(1, 2, 0)", x.decode(1, 2, 0), 51);
        Due.is("encode(2, 2, 5)", x.encode(2, 2, 5), 1);
        Due.is("SENT of service 2, whatever the ANSWER is", Due.sent(x), "69 2 5");
        Due.is("a text with a FAULT", Due.read(x, "layer"), -1);
        Due.is("encode(2, 1, 6)", x.encode(2, 1, 6), 1);
        Due.is("RAWS stay with what is IN HAND", Due.sent(x), "69 6 5");
    }

    private static void atFirst0() {
        Due.sentence("the RAWS are remembered, 0 at first");
        String text = CODINGS + "layer l { service s = 5 { param a : u ; param b : i ; param c : h ; param d : u when a = 0 ; param e : u times a ; } }";
        DescribeText x = Due.with(text);
        Due.is("encode(1, 1, 0)", x.encode(1, 1, 0), 1);
        Due.is("SENT", Due.sent(x), "69 0 0 0 0 0 0 0 0");
        Due.is("encode(1, 2, -1)", x.encode(1, 2, -1), 1);
        Due.is("the same text is another EDITION", Due.read(x, text), 1);
        Due.is("SENT stays", Due.sent(x), "69 0 255 255 255 255 0 0 0");
        Due.is("encode(1, 3, 0)", x.encode(1, 3, 0), 1);
        Due.is("its RAWS are 0 at first", Due.sent(x), "69 0 0 0 0 0 0 0 0");
    }

    private static void asFarAsTheyAreThere() {
        Due.sentence("as far as parameters are there by them");
        DescribeText x = with("param a : g ; param b : u when a = 3 ; param c : u when b = 0 ; param d : u times b ; param e : u ;");
        Due.is("encode(1, 5, 9)", x.encode(1, 5, 9), 1);
        Due.is("SENT by a 0: c is not there, as b is not", Due.sent(x), "69 0 9");
        Due.is("encode(1, 3, 8)", x.encode(1, 3, 8), 1);
        Due.is("encode of one that is not there", Due.sent(x), "69 0 9");
        Due.is("encode(1, 1, 2)", x.encode(1, 1, 2), 1);
        Due.is("SENT by a 2", Due.sent(x), "69 2 9");
        Due.is("encode(1, 1, 4)", x.encode(1, 1, 4), 1);
        Due.is("SENT by a 4", Due.sent(x), "69 4 9");
        Due.is("encode(1, 1, 3)", x.encode(1, 1, 3), 1);
        Due.is("SENT by a 3", Due.sent(x), "69 3 0 8 9");
        Due.is("encode(1, 2, 2)", x.encode(1, 2, 2), 1);
        Due.is("SENT by b 2", Due.sent(x), "69 3 2 0 0 9");
        Due.is("encode(1, 1, 0)", x.encode(1, 1, 0), 1);
        Due.is("b is not there, so d has no GROUP", Due.sent(x), "69 0 9");
        for (int count = -2; count <= 12; count++) {
            DescribeText y = with("param a : g ; param b : u times a ; param c : u ;");
            Due.is("encode(1, 2, 7)", y.encode(1, 2, 7), 1);
            Due.is("encode(1, 3, 9)", y.encode(1, 3, 9), 1);
            Due.is("encode(1, 1, " + count + ")", y.encode(1, 1, count), 1);
            int groups = Math.max(0, Math.min(8, count));
            String want = "69 " + (count & 255) + (groups == 0 ? "" : " " + Due.row(7, groups, 0)) + " 9";
            Due.is("SENT with " + count + " GROUPS", Due.sent(y), want);
        }
    }

    private static void moreThan64() {
        Due.sentence("one with which it would have more than 64 octets is not there, and none behind it");
        // 2 octets, then 7 * 4 and 7 * 4: 58 octets are there, and the rest is tried.
        String base = "param n : u ; param a : q times n ; param b : q times n ; ";
        String[] tails = {"param c : q ; param d : w ;", "param c : q ; param d : w ; param e : u ;", "param c : q ; param d : t ; param e : u ;",
            "param c : t ; param d : t ; param e : u ;", "param c : t ; param d : q ; param e : t ;", "param c : w times n ; param d : u ;",
            "param c : q ; param d : u ; param e : u ; param f : u ;", "param c : q ; param d : t ; param e : u when d = 0 ;",
            "param c : q ; param d : t ; param e : u times d ; param f : u ;"};
        int[] lengths = {64, 64, 62, 64, 61, 58, 64, 62, 62};
        for (int i = 0; i < tails.length; i++) {
            DescribeText x = with(base + tails[i]);
            Due.is("encode(1, 1, 7)", x.encode(1, 1, 7), 1);
            Due.is("SENT with " + tails[i], Due.sent(x), "69 7 " + Due.row(0, lengths[i] - 2, 0));
            Due.is("out(" + lengths[i] + ") throws", Due.outThrows(x, lengths[i]) ? 1 : 0, 1);
            Due.is("out(" + (lengths[i] - 1) + ") does not", Due.outThrows(x, lengths[i] - 1) ? 1 : 0, 0);
        }
        DescribeText x = with("param n : u ; param a : q times n ; param b : q times n ; param c : u ;");
        Due.is("encode(1, 4, 9)", x.encode(1, 4, 9), 1);
        Due.is("encode(1, 1, 8)", x.encode(1, 1, 8), 1);
        Due.is("66 octets are too many, and c is behind", Due.sent(x), "69 8 " + Due.row(0, 32, 0));
        Due.is("encode(1, 3, 5) of one without room", x.encode(1, 3, 5), 1);
        Due.is("SENT stays the same", Due.sent(x), "69 8 " + Due.row(0, 32, 0));
        Due.is("encode(1, 1, 1)", x.encode(1, 1, 1), 1);
        Due.is("with room again", Due.sent(x), "69 1 0 0 0 0 0 0 0 5 9");
    }

    private static void groupsBehind() {
        Due.sentence("groups behind the first one have 0");
        String[] codings = {"g", "h", "k", "i"};
        for (int c = 0; c < codings.length; c++) {
            DescribeText x = with("param n : u ; param a : " + codings[c] + " times n ; param b : u ;");
            Due.is("encode(1, 2, -2)", x.encode(1, 2, -2), 1);
            Due.is("encode(1, 3, 9)", x.encode(1, 3, 9), 1);
            for (int count = 1; count <= 3; count++) {
                Due.is("encode(1, 1, " + count + ")", x.encode(1, 1, count), 1);
                StringBuilder want = new StringBuilder("69 " + count);
                for (int i = 0; i < count * (c + 1); i++) {
                    want.append(i < c ? " 255" : i == c ? " 254" : " 0");
                }
                Due.is("SENT with " + count + " GROUPS", Due.sent(x), want + " 9");
            }
        }
    }

    private static void noService() {
        Due.sentence("-1 there is no service, parameter");
        DescribeText x = Due.with(CODINGS + "layer l { service s = 5 { param a : u ; param b : u ; } service r = 6 { } }");
        Due.is("encode(1, 2, 7)", x.encode(1, 2, 7), 1);
        for (int far : new int[] {-1, 0, 3, 17, Integer.MAX_VALUE, Integer.MIN_VALUE}) {
            for (long v : new long[] {0, 1, 256, Long.MIN_VALUE}) {
                Due.is("encode(" + far + ", 1, " + v + ")", x.encode(far, 1, v), -1);
                Due.is("encode(1, " + far + ", " + v + ")", x.encode(1, far, v), -1);
            }
        }
        Due.is("encode(2, 1, 0)", x.encode(2, 1, 0), -1);
        Due.is("encode(2, 0, 0)", x.encode(2, 0, 0), -1);
        Due.is("SENT stays", Due.sent(x), "69 0 7");
        Due.is("encode(1, 1, 0) with nothing IN HAND", new DescribeText().encode(1, 1, 0), -1);
    }

    private static void outBeforeAndBehind() {
        Due.sentence("Octet i of what is SENT. ArrayIndexOutOfBoundsException before and behind it");
        DescribeText none = new DescribeText();
        throwing(none, -1, 0, 1);
        DescribeText x = Due.with(CODINGS + "layer l { service s = 191 { param a : u ; param b : u times a ; } } job j { put 128 ; send ; put 127 ; send ; } job e { }");
        throwing(x, -1, 0, 1);
        Due.is("encode(1, 1, 0)", x.encode(1, 1, 0), 1);
        Due.is("out(0) is a byte", x.out(0), -1);
        Due.is("out(1)", x.out(1), 0);
        throwing(x, -1, 2, 3, 63, 64, 65, Integer.MAX_VALUE, Integer.MIN_VALUE, 1 << 30);
        Due.is("encode(1, 1, 255)", x.encode(1, 1, 255), 1);
        Due.is("out(1) is a byte", x.out(1), -1);
        Due.is("out(9)", x.out(9), 0);
        throwing(x, -1, 10, 11);
        Due.is("job(1, 9)", x.job(1, 9), 1);
        Due.is("out(0)", x.out(0), -128);
        Due.is("out(1)", x.out(1), 127);
        throwing(x, -1, 2, 9);
        Due.is("job(2, 9)", x.job(2, 9), 1);
        throwing(x, -1, 0, 1);
    }

    private static void throwing(DescribeText x, int... places) {
        for (int i : places) {
            Due.is("out(" + i + ") throws", Due.outThrows(x, i) ? 1 : 0, 1);
        }
    }
}
