/** Promise 14: NAMES of codes. */
public final class CodeTest {
    public static void main(String[] args) {
        DescribeText x = new DescribeText();
        Due.is("code(5) of a new object", x.code(5), 0);
        Due.is("read()", Due.read(x, "layer a { } code 5 = b ; code 0 = a ; code 999999 = c ; code 6 = b ;"), 0);
        Due.is("code(5)", x.code(5), 2);
        Due.is("code(0)", x.code(0), 1);
        Due.is("code(999999)", x.code(999999), 3);
        Due.is("code(6)", x.code(6), 2);
        for (int number : new int[] {1, 4, -5, -1, Integer.MAX_VALUE, Integer.MIN_VALUE}) {
            Due.is("code(" + number + ")", x.code(number), 0);
        }
        Due.is("read() with a FAULT", Due.read(x, "code 5 = z ; code"), -1);
        Due.is("code(5) stays", x.code(5), 2);
        Due.is("read()", Due.read(x, "code 5 = z ;"), 0);
        Due.is("code(5) of another text", x.code(5), 1);
        Due.is("code(0) of another text", x.code(0), 0);
        Due.done();
    }
}
