/** Promise 4: what is told of a service. */
public final class ServiceTest {
    public static void main(String[] args) {
        DescribeText x = Due.with("coding c = 1 octets ; layer base { service id = 0 { } service temp = 191 { param p : c ; param q : c ; } }"
                + " layer mid of base { service temp = 7 { } } layer top of mid { service id = 9 { } service last = 1 { } }"
                + " layer lone { service temp = 3 { } } variant mid = 1 ; variant top = 2 ; variant lone = 3 ;");
        // c 1, base 2, id 3, temp 4, p 5, q 6, mid 7, top 8, last 9, lone 10
        int[][] want = {{3, 0, 0, 1}, {4, 191, 2, 1}, {4, 7, 0, 2}, {3, 9, 0, 3}, {9, 1, 0, 3}, {4, 3, 0, 4}};
        for (int i = 1; i <= want.length; i++) {
            for (int what = 0; what < 4; what++) {
                Due.is("service(" + i + ", " + what + ")", x.service(i, what), want[i - 1][what]);
            }
        }
        inUse(x, "the first", 1, 2, 2, 1, 0, 2);
        Due.is("variant(1)", x.variant(1), 2);
        inUse(x, "mid", 1, 3, 3, 1, 0, 3);
        Due.is("variant(2)", x.variant(2), 3);
        inUse(x, "top", 4, 3, 3, 4, 5, 3);
        Due.is("variant(3)", x.variant(3), 4);
        inUse(x, "lone", 0, 6, 6, 0, 0, 6);
        Due.is("variant(9)", x.variant(9), 1);
        inUse(x, "base", 1, 2, 2, 1, 0, 2);

        for (int i : new int[] {0, -1, 7, 17, Integer.MAX_VALUE, Integer.MIN_VALUE}) {
            Due.is("service(" + i + ", 0)", x.service(i, 0), -1);
            Due.is("service(" + i + ", 5)", x.service(i, 5), -1);
        }
        for (int what : new int[] {-1, 5, Integer.MAX_VALUE, Integer.MIN_VALUE}) {
            Due.is("service(1, " + what + ")", x.service(1, what), -2);
        }
        DescribeText later = Due.with("layer a of b { } layer b { service s = 1 { } }");
        Due.is("service(1, 4) of a layer that is OF a later one", later.service(1, 4), 1);
        DescribeText deep = Due.with("layer a of b { } layer b of c { } layer c of d { } layer d of e { } layer e of f { }"
                + " layer f { service s = 1 { } service t = 2 { } }");
        Due.is("service(2, 4) through six layers", deep.service(2, 4), 2);
        DescribeText none = Due.with("layer a { service s = 1 { } } variant a = 5 ;");
        Due.is("variant(6)", none.variant(6), 0);
        Due.is("service(1, 4) with no layer IN USE", none.service(1, 4), 0);
        Due.done();
    }

    private static void inUse(DescribeText x, String layer, int... want) {
        for (int i = 1; i <= want.length; i++) {
            Due.is("service(" + i + ", 4) with " + layer, x.service(i, 4), want[i - 1]);
        }
    }
}
