/** Promise 9: octets of what is SENT. */
public final class OutTest {
    public static void main(String[] args) {
        DescribeText x = new DescribeText();
        throwing(x, 0, 1, -1, 63, 64, Integer.MAX_VALUE, Integer.MIN_VALUE);
        Due.read(x, "coding u = 1 octets ; layer l { service s = 191 { param a : u ; param b : u ; } } job j { put 1 ; send ; }");
        throwing(x, 0);
        Due.is("encode(1, 1, 200)", x.encode(1, 1, 200), 1);
        Due.is("out(0)", x.out(0), -1);
        Due.is("out(1)", x.out(1), -56);
        Due.is("out(2)", x.out(2), 0);
        throwing(x, 3, 4, 64, -1, Integer.MAX_VALUE, Integer.MIN_VALUE);
        Due.is("job(1, 9)", x.job(1, 9), 1);
        Due.is("out(0) of the job", x.out(0), 1);
        throwing(x, 1, 2, -1);
        Due.is("out(0) once more", x.out(0), 1);
        Due.done();
    }

    private static void throwing(DescribeText x, int... places) {
        for (int i : places) {
            Due.is("out(" + i + ") throws", Due.outThrows(x, i) ? 1 : 0, 1);
        }
    }
}
