/** Promise 6: parameters in an ANSWER. */
public final class DecodeTest {
    private static final String CODINGS = "coding u = 1 octets ; coding g = 1 octets signed ; coding w = 2 octets ; coding h = 2 octets signed ;"
            + " coding t = 3 octets ; coding q = 4 octets ; coding i = 4 octets signed ; coding f = 2 octets scale 5 / 10 plus - 40 ;"
            + " coding n = 1 octets scale - 6 / 4 plus 2 ; coding o = 1 octets scale 0 / 7 plus 3 ; coding m = 4 octets scale 999999 / 999998 plus -999999 ;"
            + " coding k = 1 octets { 0 off ; 1 on ; 255 none ; 256 far ; } ";

    public static void main(String[] args) {
        values();
        places();
        firstOctet();
        when();
        times();
        shortAnswers();
        refusals();
        Due.done();
    }

    private static DescribeText with(String parameters, int... octets) {
        DescribeText x = Due.with(CODINGS + "layer l { service s = 5 { " + parameters + " } }");
        Due.tell(x, octets);
        return x;
    }

    private static void sides(DescribeText x, int parameter, long... want) {
        for (int side = 0; side < want.length; side++) {
            Due.is("decode(1, " + parameter + ", " + side + ")", x.decode(1, parameter, side), want[side]);
        }
    }

    private static void value(String coding, String octets, long above, long below) {
        DescribeText x = with("param p : " + coding + " ;", 69);
        String[] each = octets.split(" ");
        for (String octet : each) {
            Due.tell(x, Integer.parseInt(octet));
        }
        sides(x, 1, above, below, 1, each.length);
    }

    private static void values() {
        value("u", "255", 255, 1);
        value("g", "255", -1, 1);
        value("g", "128", -128, 1);
        value("g", "127", 127, 1);
        value("w", "128 1", 32769, 1);
        value("h", "128 1", -32767, 1);
        value("h", "127 255", 32767, 1);
        value("t", "255 255 255", 16777215, 1);
        value("q", "255 255 255 255", 4294967295L, 1);
        value("q", "1 2 3 4", 16909060, 1);
        value("i", "255 255 255 255", -1, 1);
        value("i", "128 0 0 0", -2147483648L, 1);
        value("f", "0 0", -40, 1);
        value("f", "0 1", -79, 2);
        value("f", "0 80", 0, 1);
        value("f", "255 255", 65455, 2);
        value("n", "0", 2, 1);
        value("n", "1", 1, 2);
        value("n", "2", -1, 1);
        value("n", "255", -761, 2);
        value("o", "9", 3, 1);
        value("m", "255 255 255 255", 4294967295L * 999999 - 999999L * 999998, 999998);
        value("m", "0 0 0 0", -999999, 1);
        value("m", "0 15 66 62", 0, 1);

        for (int[] row : new int[][] {{0, 13}, {1, 14}, {255, 15}, {2, 0}}) {
            // The 12 codings have the first NAMES, the last one's ROWS follow.
            DescribeText x = with("param p : k ;", 69, row[0]);
            sides(x, 1, row[0], 1, 1, 1, row[1]);
        }
        Due.is("decode(1, 1, 4) without a TABLE", with("param p : u ;", 69, 1).decode(1, 1, 4), 0);
    }

    private static void places() {
        DescribeText x = with("param a : w ; param b : u ; param c : q ; param d : k ;", 69, 1, 2, 3, 4, 5, 6, 7, 1, 9, 9);
        sides(x, 1, 258, 1, 1, 2, 0);
        sides(x, 2, 3, 1, 3, 1, 0);
        sides(x, 3, 0x04050607, 1, 4, 4, 0);
        sides(x, 4, 1, 1, 8, 1, 14);
    }

    private static void firstOctet() {
        DescribeText x = Due.with(CODINGS + "layer l { service s = 191 { param p : u ; } service t = 0 { param p : u ; }"
                + " service r = 191 { param p : g ; } }");
        Due.tell(x, 255, 200);
        sides(x, 1, 200, 1, 1, 1, 0);
        Due.is("decode(3, 1, 0): another one with that Z", x.decode(3, 1, 0), -56);
        Due.is("decode(2, 1, 0): not that one's ANSWER", x.decode(2, 1, 0), 0);
        Due.is("decode(2, 1, 2)", x.decode(2, 1, 2), -1);
        sides(with("param p : u ;", 5, 1), 1, 0, 0, -1, 0, 0);
        sides(with("param p : u ;"), 1, 0, 0, -1, 0, 0);
    }

    private static void when() {
        String parameters = "param a : g ; param b : u when a = 3 ; param c : u when b = 0 ; param d : u ;";
        DescribeText there = with(parameters, 69, 3, 0, 7, 8);
        sides(there, 2, 0, 1, 2, 1, 0);
        sides(there, 3, 7, 1, 3, 1, 0);
        sides(there, 4, 8, 1, 4, 1, 0);
        DescribeText second = with(parameters, 69, 3, 1, 7, 8);
        sides(second, 3, 0, 0, -1, 0, 0);
        sides(second, 4, 7, 1, 3, 1, 0);
        DescribeText gone = with(parameters, 69, 4, 7, 8);
        sides(gone, 2, 0, 0, -1, 0, 0);
        sides(gone, 3, 0, 0, -1, 0, 0);
        sides(gone, 4, 7, 1, 2, 1, 0);
        DescribeText minus = with("param a : g ; param b : u when a = 255 ; param c : u ;", 69, 255, 9);
        sides(minus, 2, 0, 0, -1, 0, 0);
        sides(minus, 3, 9, 1, 2, 1, 0);
        DescribeText scaled = with("param a : f ; param b : u when a = 80 ;", 69, 0, 80, 5);
        sides(scaled, 2, 5, 1, 3, 1, 0);
        DescribeText wide = with("param a : t ; param b : u when a = 999999 ;", 69, 15, 66, 63, 5);
        sides(wide, 2, 5, 1, 4, 1, 0);
    }

    private static void times() {
        String parameters = "param a : g ; param b : w times a ; param c : u times b ; param d : u when b = 2 ; param e : u ;";
        DescribeText two = with(parameters, 69, 2, 0, 2, 0, 9, 5, 6, 7, 8);
        sides(two, 2, 2, 1, 2, 4, 0);
        sides(two, 3, 5, 1, 6, 2, 0);
        sides(two, 4, 7, 1, 8, 1, 0);
        sides(two, 5, 8, 1, 9, 1, 0);
        DescribeText none = with(parameters, 69, 0, 5);
        sides(none, 2, 0, 0, -1, 0, 0);
        sides(none, 3, 0, 0, -1, 0, 0);
        sides(none, 5, 5, 1, 2, 1, 0);
        DescribeText below = with(parameters, 69, 255, 5);
        sides(below, 2, 0, 0, -1, 0, 0);
        sides(below, 5, 5, 1, 2, 1, 0);
        for (int count : new int[] {8, 9, 255}) {
            DescribeText most = with("param a : u ; param b : u times a ; param c : u ;", 69, count, 1, 2, 3, 4, 5, 6, 7, 8, 77);
            sides(most, 2, 1, 1, 2, 8, 0);
            sides(most, 3, 77, 1, 10, 1, 0);
        }
        DescribeText far = with("param a : q ; param b : u times a ;", 69, 255, 255, 255, 255, 1, 2, 3, 4, 5, 6, 7, 8);
        sides(far, 2, 1, 1, 5, 8, 0);
        DescribeText table = with("param a : u ; param b : k times a ;", 69, 2, 255, 1);
        sides(table, 2, 255, 1, 2, 2, 15);
    }

    private static void shortAnswers() {
        String parameters = "param a : u ; param b : w ; param c : u ; param d : u times a ; param e : u when a = 0 ;";
        DescribeText x = with(parameters, 69, 0, 5);
        sides(x, 1, 0, 1, 1, 1, 0);
        for (int i = 2; i <= 5; i++) {
            sides(x, i, 0, 0, -1, 0, 0);
        }
        DescribeText groups = with("param a : u ; param b : w times a ; param c : u ;", 69, 2, 1, 1, 1);
        sides(groups, 2, 0, 0, -1, 0, 0);
        sides(groups, 3, 0, 0, -1, 0, 0);
        Due.tell(groups, 7);
        sides(groups, 2, 257, 1, 2, 4, 0);
        sides(groups, 3, 0, 0, -1, 0, 0);
        Due.tell(groups, 8);
        sides(groups, 3, 8, 1, 6, 1, 0);
    }

    private static void refusals() {
        DescribeText x = with("param a : u ;", 69, 1);
        for (int i : new int[] {0, 2, -1, Integer.MAX_VALUE, Integer.MIN_VALUE}) {
            Due.is("decode(" + i + ", 1, 0)", x.decode(i, 1, 0), -1);
            Due.is("decode(1, " + i + ", 9)", x.decode(1, i, 9), -1);
        }
        for (int side : new int[] {-1, 5, Integer.MAX_VALUE, Integer.MIN_VALUE}) {
            Due.is("decode(1, 1, " + side + ")", x.decode(1, 1, side), -2);
            Due.is("decode of one that is not there", with("param a : u ;").decode(1, 1, side), -2);
        }
    }
}
