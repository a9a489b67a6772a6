import java.math.BigInteger;

/** The edges of AN ANSWER and of what decode tells of it (promises 6 and 7). */
public final class AnswerEdgesTest {
    private static final String CODINGS = "coding u = 1 octets ; coding w = 2 octets ; coding t = 3 octets ; coding q = 4 octets ;"
            + " coding g = 1 octets signed ; coding h = 2 octets signed ; coding k = 3 octets signed ; coding i = 4 octets signed ; ";
    private static final long[] NOT_THERE = {0, 0, -1, 0, 0};

    public static void main(String[] args) {
        atMost64();
        a65th();
        firstOctet();
        when();
        times();
        widths();
        noGroup();
        notAllOctets();
        raws();
        firstGroup();
        scales();
        tables();
        notThere();
        numbersAndSides();
        Due.done();
    }

    private static DescribeText with(String parameters, int... octets) {
        DescribeText x = Due.with(CODINGS + "layer l { service s = 5 { " + parameters + " } }");
        Due.tell(x, octets);
        return x;
    }

    private static void sides(DescribeText x, int parameter, long... want) {
        for (int side = 0; side < want.length; side++) {
            Due.is("decode(1, " + parameter + ", " + side + ")", x.decode(1, parameter, side), want[side]);
        }
    }

    /** 1 octet, then 1 for the count, then 7 * 4 and 7 * 4 octets, then six of one octet: the last is octet 63. */
    private static DescribeText wide() {
        return with("param n : u ; param a : q times n ; param b : q times n ; param c : q ; param d : u ; param e : u ; param f : u ;", 69, 7);
    }

    private static void atMost64() {
        Due.sentence("AN ANSWER is a row of octets, at most 64");
        DescribeText x = wide();
        for (int i = 2; i <= 63; i++) {
            sides(x, 6, NOT_THERE);
            Due.tell(x, i);
        }
        sides(x, 4, 58 << 24 | 59 << 16 | 60 << 8 | 61, 1, 58, 4, 0);
        sides(x, 5, 62, 1, 62, 1, 0);
        sides(x, 6, 63, 1, 63, 1, 0);
        sides(x, 7, NOT_THERE);
    }

    private static void a65th() {
        Due.sentence("An octet more for the ANSWER; a 65th one begins another ANSWER");
        DescribeText x = wide();
        for (int i = 2; i <= 63; i++) {
            Due.tell(x, 69);
        }
        sides(x, 1, 7, 1, 1, 1, 0);
        sides(x, 6, 69, 1, 63, 1, 0);
        Due.tell(x, 69);
        for (int p = 1; p <= 7; p++) {
            sides(x, p, NOT_THERE);
        }
        Due.tell(x, 0);
        sides(x, 1, 0, 1, 1, 1, 0);
        Due.tell(x, 1, 2, 3, 4);
        sides(x, 4, 0x01020304, 1, 2, 4, 0);
        sides(x, 5, NOT_THERE);
        for (int i = 6; i < 64; i++) {
            Due.tell(x, i);
        }
        sides(x, 7, 8, 1, 8, 1, 0);
        Due.tell(x, 70, 3);
        sides(x, 1, NOT_THERE);
        for (int i = 2; i < 64; i++) {
            Due.tell(x, 0);
        }
        Due.tell(x, 69, 6);
        sides(x, 1, 6, 1, 1, 1, 0);
    }

    private static void firstOctet() {
        Due.sentence("its first octet is 64 more than the service's Z, otherwise no parameter is there");
        for (int z : new int[] {0, 1, 63, 64, 65, 127, 128, 190, 191}) {
            for (int first = 0; first <= 255; first++) {
                DescribeText x = Due.with("coding u = 1 octets ; layer l { service s = " + z + " { param p : u ; } }");
                Due.tell(x, first, 9);
                Due.is("decode(1, 1, 2) by Z " + z + " and octet " + first, x.decode(1, 1, 2), first == z + 64 ? 1 : -1);
            }
        }
        sides(with("param p : u ;"), 1, NOT_THERE);
        sides(with("param p : u ;", 69), 1, NOT_THERE);
        sides(with("param p : u ;", 69, 0), 1, 0, 1, 1, 1, 0);
        sides(with("param p : u ;", 68, 69, 0), 1, NOT_THERE);
    }

    private static void when() {
        Due.sentence("one with when is not there, unless that one is there, and its RAW is Z");
        for (int raw = 0; raw <= 255; raw++) {
            DescribeText x = with("param a : u ; param b : u when a = 7 ; param c : u ;", 69, raw, 9, 8);
            sides(x, 2, raw == 7 ? new long[] {9, 1, 2, 1, 0} : NOT_THERE);
            sides(x, 3, raw == 7 ? 8 : 9, 1, raw == 7 ? 3 : 2, 1, 0);
        }
        // 0 is Z, and the one that it hangs on is not there.
        DescribeText gone = with("param a : u ; param b : u when a = 1 ; param c : u when b = 0 ; param d : u times b ; param e : u ;", 69, 0, 9);
        sides(gone, 2, NOT_THERE);
        sides(gone, 3, NOT_THERE);
        sides(gone, 4, NOT_THERE);
        sides(gone, 5, 9, 1, 2, 1, 0);
        DescribeText zero = with("param a : u ; param b : u when a = 0 ; param c : u when b = 0 ;", 69, 0, 0, 9);
        sides(zero, 3, 9, 1, 3, 1, 0);
        // With a sign 255 is -1, which no Z is.
        sides(with("param a : g ; param b : u when a = 255 ;", 69, 255, 9), 2, NOT_THERE);
        sides(with("param a : g ; param b : u when a = 127 ;", 69, 127, 9), 2, 9, 1, 2, 1, 0);
        sides(with("param a : u ; param b : u when a = 256 ;", 69, 0, 9), 2, NOT_THERE);
        sides(with("param a : t ; param b : u when a = 999999 ;", 69, 15, 66, 63, 9), 2, 9, 1, 4, 1, 0);
        sides(with("param a : t ; param b : u when a = 999999 ;", 69, 15, 66, 62, 9), 2, NOT_THERE);
    }

    private static void times() {
        Due.sentence("One with times has as many GROUPS as the RAW of that one says (8 at most, none below 0 and when that one is not there)");
        for (int raw = 0; raw <= 255; raw++) {
            DescribeText x = with("param a : u ; param b : u times a ; param c : u ;", 69, raw, 11, 12, 13, 14, 15, 16, 17, 18, 19, 20, 21);
            int groups = Math.min(raw, 8);
            sides(x, 2, groups == 0 ? NOT_THERE : new long[] {11, 1, 2, groups, 0});
            sides(x, 3, 11 + groups, 1, 2 + groups, 1, 0);
            DescribeText y = with("param a : g ; param b : w times a ; param c : u ;", 69, raw, 1, 2, 3, 4, 5, 6, 7, 8, 9, 10, 11, 12, 13, 14, 15, 16, 17);
            int signed = raw > 127 ? 0 : groups;
            sides(y, 2, signed == 0 ? NOT_THERE : new long[] {258, 1, 2, 2 * signed, 0});
            sides(y, 3, 1 + 2 * signed, 1, 2 + 2 * signed, 1, 0);
        }
        sides(with("param a : q ; param b : u times a ; param c : u ;", 69, 128, 0, 0, 0, 1, 2, 3, 4, 5, 6, 7, 8, 9), 3, 9, 1, 13, 1, 0);
        sides(with("param a : q ; param b : u times a ; param c : u ;", 69, 1, 0, 0, 0, 1, 2, 3, 4, 5, 6, 7, 8, 9), 3, 9, 1, 13, 1, 0);
        sides(with("param a : i ; param b : u times a ; param c : u ;", 69, 128, 0, 0, 0, 1), 3, 1, 1, 5, 1, 0);
        sides(with("param a : i ; param b : u times a ; param c : u ;", 69, 255, 255, 255, 255, 1), 3, 1, 1, 5, 1, 0);
    }

    private static void widths() {
        Due.sentence("others one; a GROUP is as many octets as its coding has");
        String[] codings = {"u", "w", "t", "q", "g", "h", "k", "i"};
        for (int c = 0; c < codings.length; c++) {
            int width = 1 + c % 4;
            DescribeText x = with("param a : " + codings[c] + " ; param b : u ;", 69, 1, 1, 1, 1, 1, 1);
            Due.is("octets of " + codings[c], x.decode(1, 1, 3), width);
            Due.is("the place behind " + codings[c], x.decode(1, 2, 2), 1 + width);
            DescribeText y = with("param n : u ; param a : " + codings[c] + " times n ; param b : u ;", 69, 3, 1, 1, 1, 1, 1, 1, 1, 1, 1, 1, 1, 1, 1);
            Due.is("octets of three " + codings[c], y.decode(1, 2, 3), 3 * width);
            Due.is("the place behind three " + codings[c], y.decode(1, 3, 2), 2 + 3 * width);
        }
    }

    private static void noGroup() {
        Due.sentence("With no GROUP it is not there");
        String parameters = "param a : u ; param b : w times a ; param c : u when b = 0 ; param d : u times b ; param e : u ;";
        DescribeText x = with(parameters, 69, 0, 9);
        sides(x, 1, 0, 1, 1, 1, 0);
        sides(x, 2, NOT_THERE);
        sides(x, 3, NOT_THERE);
        sides(x, 4, NOT_THERE);
        sides(x, 5, 9, 1, 2, 1, 0);
        // Behind the end it is not there either, and takes none with it.
        DescribeText y = with("param a : u ; param b : u times a ;", 69, 0);
        sides(y, 2, NOT_THERE);
    }

    private static void notAllOctets() {
        Due.sentence("if not all of its octets are, it is not, and none behind it");
        String parameters = "param a : u ; param b : q ; param c : u ; param d : w times a ; param e : u ; param f : u when a = 2 ; param h : u when a = 3 ;";
        int[] all = {69, 2, 1, 2, 3, 4, 5, 6, 7, 8, 9, 10, 11};
        int[] ends = {2, 6, 7, 11, 12, 13};
        for (int length = 1; length <= all.length; length++) {
            DescribeText x = with(parameters);
            for (int i = 0; i < length; i++) {
                Due.tell(x, all[i]);
            }
            for (int p = 1; p <= 6; p++) {
                boolean there = length >= ends[p - 1];
                Due.is("decode(1, " + p + ", 2) with " + length + " octets", x.decode(1, p, 2), there ? p == 1 ? 1 : ends[p - 2] : -1);
                Due.is("decode(1, " + p + ", 1) with " + length + " octets", x.decode(1, p, 1), there ? 1 : 0);
            }
            sides(x, 7, NOT_THERE);
        }
        // One octet is left, which a narrower one behind would have.
        DescribeText x = with("param a : w ; param b : u ; param c : u when b = 0 ;", 69, 1);
        sides(x, 1, NOT_THERE);
        sides(x, 2, NOT_THERE);
        DescribeText y = with("param a : u ; param b : w times a ; param c : u ; param d : u when a = 2 ;", 69, 2, 1, 1, 1);
        sides(y, 2, NOT_THERE);
        sides(y, 3, NOT_THERE);
        sides(y, 4, NOT_THERE);
    }

    /** Octets that are all the same but the first and the last. */
    private static void raw(String coding, int width, boolean signed, int first, int rest, int last) {
        DescribeText x = with("param p : " + coding + " ;", 69);
        byte[] octets = new byte[width];
        for (int i = 0; i < width; i++) {
            octets[i] = (byte) (i == width - 1 ? last : rest);
        }
        octets[0] = (byte) first;
        for (byte b : octets) {
            x.octet(b);
        }
        long want = (signed ? new BigInteger(octets) : new BigInteger(1, octets)).longValueExact();
        sides(x, 1, want, 1, 1, width, 0);
    }

    private static void raws() {
        Due.sentence("Its RAW is the number in its first GROUP, the highest octet first, with signed as it is with a sign");
        String[] codings = {"u", "w", "t", "q", "g", "h", "k", "i"};
        int[] edges = {0, 1, 2, 126, 127, 128, 129, 254, 255};
        for (int c = 0; c < codings.length; c++) {
            for (int first : edges) {
                for (int rest : edges) {
                    for (int last : edges) {
                        raw(codings[c], 1 + c % 4, c >= 4, first, rest, last);
                    }
                }
            }
        }
    }

    private static void firstGroup() {
        Due.sentence("Its RAW is the number in its first GROUP");
        DescribeText x = with("param n : u ; param a : w times n ; param b : u times a ; param c : u when a = 2 ; param d : u ;",
                69, 3, 0, 2, 0, 5, 255, 255, 11, 12, 13, 14);
        sides(x, 2, 2, 1, 2, 6, 0);
        sides(x, 3, 11, 1, 8, 2, 0);
        sides(x, 4, 13, 1, 10, 1, 0);
        sides(x, 5, 14, 1, 11, 1, 0);
    }

    private static void scale(int width, long times, long over, long plus, long raw) {
        DescribeText x = Due.with("coding c = " + width + " octets scale " + signed(times) + " / " + over + " plus " + signed(plus)
                + " ; layer l { service s = 5 { param p : c ; } }");
        Due.tell(x, 69);
        for (int i = width - 1; i >= 0; i--) {
            x.octet((byte) (raw >> 8 * i));
        }
        BigInteger above = BigInteger.valueOf(raw).multiply(BigInteger.valueOf(times)).add(BigInteger.valueOf(plus).multiply(BigInteger.valueOf(over)));
        BigInteger divisor = above.gcd(BigInteger.valueOf(over));
        sides(x, 1, above.divide(divisor).longValueExact(), BigInteger.valueOf(over).divide(divisor).longValueExact(), 1, width, 0);
    }

    private static String signed(long v) {
        return v < 0 ? "- " + -v : "" + v;
    }

    private static void scales() {
        Due.sentence("with scale RAW times the first V, over Z, plus the second V; lowest terms, what is below is above 0");
        long[] vs = {0, 1, -1, 2, -6, 999998, 999999, -999999};
        long[] zs = {1, 2, 6, 7, 999998, 999999};
        for (long times : vs) {
            for (long over : zs) {
                for (long plus : vs) {
                    scale(1, times, over, plus, 255);
                    scale(1, times, over, plus, 0);
                    scale(2, times, over, plus, 6);
                    scale(4, times, over, plus, 4294967295L);
                    scale(4, times, over, plus, 2147483648L);
                }
            }
        }
        scale(4, 999999, 1, 999999, 4294967295L);
        scale(3, 999999, 999999, -999999, 999999);
    }

    private static void tables() {
        Due.sentence("4 the number of the NAME that its TABLE has for its RAW (0 for none)");
        String text = "coding a = 1 octets { 0 b ; 255 d ; 256 e ; 7 b ; } coding f = 4 octets { 999999 h ; 0 d ; } coding u = 1 octets ;"
                + " layer l { service s = 5 { param p : a ; param q : f ; param r : u ; } }";
        // a 1, b 2, d 3, e 4, f 5, h 6
        int[][] rows = {{0, 2}, {255, 3}, {7, 2}, {1, 0}, {6, 0}, {8, 0}, {254, 0}};
        for (int[] row : rows) {
            DescribeText x = Due.with(text);
            Due.tell(x, 69, row[0], 0, 0, 0, 0, 0);
            Due.is("decode(1, 1, 4) by RAW " + row[0], x.decode(1, 1, 4), row[1]);
            Due.is("decode(1, 2, 4) by RAW 0", x.decode(1, 2, 4), 3);
            Due.is("decode(1, 3, 4) without a TABLE", x.decode(1, 3, 4), 0);
        }
        DescribeText far = Due.with("coding f = 4 octets { 999999 h ; } coding g = 4 octets { } layer l { service s = 5 { param q : f ; param r : g ; } }");
        Due.tell(far, 69, 0, 15, 66, 63, 0, 0, 0, 0);
        Due.is("decode(1, 1, 4) by RAW 999999", far.decode(1, 1, 4), 2);
        Due.is("decode(1, 2, 4) by an empty TABLE", far.decode(1, 2, 4), 0);
        // Of several GROUPS the first one tells the NAME; without an ANSWER there is none, even for RAW 0.
        DescribeText groups = Due.with("coding u = 1 octets ; coding a = 1 octets { 0 b ; 1 d ; } layer l { service s = 5 { param n : u ; param p : a times n ; } }");
        Due.is("decode(1, 2, 4) when it is not there", groups.decode(1, 2, 4), 0);
        Due.tell(groups, 69, 2, 1, 0);
        Due.is("decode(1, 2, 4) of two GROUPS", groups.decode(1, 2, 4), 4);
    }

    private static void notThere() {
        Due.sentence("If it is not there, -1 for side 2, and 0 for others");
        // By its scale RAW 0 would be 3 / 1, by its TABLE z.
        DescribeText x = Due.with("coding f = 1 octets scale 1 / 2 plus 3 ; coding t = 1 octets { 0 z ; }"
                + " layer l { service s = 5 { param a : f ; param b : t ; param c : f when a = 9 ; param d : t times c ; } }");
        for (int p = 1; p <= 4; p++) {
            sides(x, p, NOT_THERE);
        }
        Due.tell(x, 69);
        for (int p = 1; p <= 4; p++) {
            sides(x, p, NOT_THERE);
        }
        Due.tell(x, 0, 0, 0, 0);
        sides(x, 1, 3, 1, 1, 1, 0);
        sides(x, 2, 0, 1, 2, 1, 3);
        sides(x, 3, NOT_THERE);
        sides(x, 4, NOT_THERE);
    }

    private static void numbersAndSides() {
        Due.sentence("-1, -2 likewise");
        DescribeText x = Due.with("coding u = 1 octets ; layer l { service s = 5 { param a : u ; param b : u ; } service t = 6 { } service r = 5 { param a : u ; } }");
        for (int told = 0; told < 2; told++) {
            for (int side = -2; side <= 6; side++) {
                boolean known = side >= 0 && side <= 4;
                for (int p = -1; p <= 3; p++) {
                    long got = x.decode(1, p, side);
                    boolean there = p == 1 || p == 2;
                    Due.is("decode(1, " + p + ", " + side + ")", got, there ? known ? side(told, p, side) : -2 : -1);
                }
                Due.is("decode(0, 1, " + side + ")", x.decode(0, 1, side), -1);
                Due.is("decode(-1, 1, " + side + ")", x.decode(-1, 1, side), -1);
                Due.is("decode(2, 1, " + side + ")", x.decode(2, 1, side), -1);
                Due.is("decode(2, 0, " + side + ")", x.decode(2, 0, side), -1);
                Due.is("decode(3, 2, " + side + ")", x.decode(3, 2, side), -1);
                Due.is("decode(4, 1, " + side + ")", x.decode(4, 1, side), -1);
            }
            Due.tell(x, 69, 21, 22);
        }
        Due.is("decode(3, 1, 0): another service with that Z", x.decode(3, 1, 0), 21);
        for (int far : new int[] {Integer.MAX_VALUE, Integer.MIN_VALUE}) {
            Due.is("decode(" + far + ", 1, 0)", x.decode(far, 1, 0), -1);
            Due.is("decode(1, " + far + ", 0)", x.decode(1, far, 0), -1);
            Due.is("decode(1, 1, " + far + ")", x.decode(1, 1, far), -2);
            Due.is("decode(" + far + ", 1, " + far + ")", x.decode(far, 1, far), -1);
        }
    }

    private static long side(int told, int p, int side) {
        long[] there = {20 + p, 1, p, 1, 0};
        return told == 0 ? NOT_THERE[side] : there[side];
    }
}
