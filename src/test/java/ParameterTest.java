/** Promise 5: what is told of a parameter. */
public final class ParameterTest {
    public static void main(String[] args) {
        DescribeText x = Due.with("layer l { service s = 1 { param a : v ; param b : u when a = 17 ; param c : w times b ; param d : u times a ;"
                + " param e : v when d = 0 ; } service t = 2 { } service q = 3 { param c : w ; } }"
                + " coding u = 1 octets ; coding v = 2 octets ; coding w = 3 octets { }");
        // l 1, s 2, a 3, v 4, b 5, u 6, c 7, w 8, d 9, e 10
        int[][] want = {{3, 2, 0, 0, 0}, {5, 1, 1, 1, 17}, {7, 3, 2, 2, 0}, {9, 1, 2, 1, 0}, {10, 2, 1, 4, 0}};
        for (int i = 1; i <= want.length; i++) {
            for (int what = 0; what < 5; what++) {
                Due.is("parameter(1, " + i + ", " + what + ")", x.parameter(1, i, what), want[i - 1][what]);
            }
        }
        Due.is("parameter(3, 1, 0)", x.parameter(3, 1, 0), 7);
        Due.is("parameter(3, 1, 1)", x.parameter(3, 1, 1), 3);
        Due.is("parameter(2, 1, 0)", x.parameter(2, 1, 0), -1);
        for (int i : new int[] {0, -1, 6, 9, Integer.MAX_VALUE, Integer.MIN_VALUE}) {
            Due.is("parameter(1, " + i + ", 0)", x.parameter(1, i, 0), -1);
            Due.is("parameter(1, " + i + ", 9)", x.parameter(1, i, 9), -1);
        }
        for (int i : new int[] {0, -1, 4, 17, Integer.MAX_VALUE, Integer.MIN_VALUE}) {
            Due.is("parameter(" + i + ", 1, 0)", x.parameter(i, 1, 0), -1);
        }
        for (int what : new int[] {-1, 5, Integer.MAX_VALUE, Integer.MIN_VALUE}) {
            Due.is("parameter(1, 1, " + what + ")", x.parameter(1, 1, what), -2);
        }
        Due.done();
    }
}
