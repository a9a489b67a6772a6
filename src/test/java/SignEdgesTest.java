/** The edges of sign (promise 2). */
public final class SignEdgesTest {
    public static void main(String[] args) {
        highestFirst();
        zerosArePassedOver();
        behind2000IsLost();
        zerosTakeNoRoom();
        notReadYet();
        Due.done();
    }

    private static int octets(int a, int b, int c, int d) {
        return a << 24 | b << 16 | c << 8 | d;
    }

    private static void highestFirst() {
        Due.sentence("Four octets more for the text, the highest first");
        String name = "abcd";
        int[][] orders = {{0, 1, 2, 3}, {3, 2, 1, 0}, {1, 0, 3, 2}, {2, 3, 0, 1}};
        for (int[] o : orders) {
            DescribeText x = new DescribeText();
            Due.sign(x, "code 1 = abcd ; code 2 =");
            x.sign(' ');
            x.sign(octets(name.charAt(o[0]), name.charAt(o[1]), name.charAt(o[2]), name.charAt(o[3])));
            Due.sign(x, " ;");
            Due.is("read()", x.read(), 0);
            Due.is("code(2)", x.code(2), o[0] == 0 ? 1 : 2);
        }
        DescribeText x = new DescribeText();
        x.sign(octets(10, 255, 10, 10));
        Due.is("an octet of 255 on the second line", x.read(), -2);
        x.sign(octets(255, 10, 10, 10));
        Due.is("an octet of 255 on the first line", x.read(), -1);
        x.sign(octets(10, 10, 10, 128));
        Due.is("an octet of 128 on the fourth line", x.read(), -4);
        x.sign(octets(10, 10, 10, '}'));
        Due.is("a } on the fourth line", x.read(), -4);
        x.sign(octets(128, 128, 128, 128));
        Due.is("a number below 0", x.read(), -1);
        x.sign(-1);
        Due.is("four octets of 255", x.read(), -1);
        x.sign(octets(10, 10, 10, 10));
        Due.is("four LINES", x.read(), 0);
    }

    private static void zerosArePassedOver() {
        Due.sentence("those that are 0 are passed over");
        for (int mask = 0; mask < 16; mask++) {
            DescribeText x = new DescribeText();
            StringBuilder name = new StringBuilder();
            int c = 0;
            for (int i = 0; i < 4; i++) {
                boolean has = (mask >> i & 1) == 1;
                c = c << 8 | (has ? 'a' + i : 0);
                name.append(has ? "" + (char) ('a' + i) : "");
            }
            Due.sign(x, "code 1 = z" + name + " ; code 2 = z");
            x.sign(c);
            x.sign(0);
            Due.sign(x, " ;");
            Due.is("read() with " + name, x.read(), 0);
            Due.is("code(2) by " + name, x.code(2), 1);
            Due.is("code(1) by " + name, x.code(1), 1);
        }
        DescribeText x = new DescribeText();
        for (int i = 0; i < 100; i++) {
            x.sign(0);
        }
        Due.is("read() of zeros alone", x.read(), 0);
        x.sign(octets(0, 0, 0, '}'));
        Due.is("read() of a } behind zeros", x.read(), -1);
    }

    /** A text of so many LINES, then one call with three LINES and a }. */
    private static void behind2000IsLost() {
        Due.sentence("what comes behind 2000 is lost");
        for (int before = 1990; before <= 2004; before++) {
            for (int at = 0; at < 4; at++) {
                DescribeText x = new DescribeText();
                Due.sign(x, Due.many("\n", before));
                x.sign(octets(at == 0 ? '}' : 10, at == 1 ? '}' : 10, at == 2 ? '}' : 10, at == 3 ? '}' : 10));
                int place = before + at;
                Due.is("read() with a } behind " + place + " LINES", x.read(), place < 2000 ? -place - 1 : 0);
            }
        }
        DescribeText x = new DescribeText();
        Due.sign(x, Due.many("\n", 1995) + "layer");
        for (int i = 0; i < 10; i++) {
            x.sign(octets(10, 10, 10, 10));
        }
        Due.is("LINES behind 2000 are not counted", x.read(), -1996);
        DescribeText y = new DescribeText();
        Due.sign(y, Due.many("\n", 1994) + "layer");
        y.sign(octets(10, 10, 10, 10));
        Due.is("the 2000th octet ends a LINE", y.read(), -1996);
    }

    private static void zerosTakeNoRoom() {
        Due.sentence("those that are 0 are passed over, and what comes behind 2000 is lost");
        DescribeText x = new DescribeText();
        for (int i = 0; i < 500; i++) {
            x.sign(i < 499 ? octets(0, 10, 0, 10) : octets(0, 10, 0, '}'));
        }
        Due.is("read() of 1000 octets between zeros", x.read(), -1000);
        DescribeText y = new DescribeText();
        Due.sign(y, Due.many("\n", 1999));
        y.sign(0);
        y.sign(octets(0, 0, '}', '}'));
        Due.is("the 2000th octet behind zeros", y.read(), -2000);
        DescribeText z = new DescribeText();
        Due.sign(z, Due.many("\n", 1999));
        z.sign(octets(0, 10, 0, '}'));
        Due.is("the 2001st octet behind zeros", z.read(), 0);
    }

    private static void notReadYet() {
        Due.sentence("Four octets more for the text");
        DescribeText x = Due.with("code 1 = a ;");
        Due.sign(x, "code 2 = ");
        Due.is("code(1)", x.code(1), 1);
        Due.sign(x, "b ;");
        Due.is("code(2) before it is READ", x.code(2), 0);
        Due.is("read()", x.read(), 0);
        Due.is("code(2)", x.code(2), 1);
        Due.is("code(1)", x.code(1), 0);
    }
}
