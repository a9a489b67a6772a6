/** Promise 12: the RING for which a text was refused. */
public final class RingTest {
    public static void main(String[] args) {
        rings("layer a of a { }", 1, 1);
        rings("layer a of b { } layer b of a { }", 1, 1, 2);
        rings("layer a of c { } layer b of a { } layer c of b { }", 1, 1, 3, 2);
        rings("layer z of a { }\nlayer a of\nb { } layer b of a { }", 3, 2, 3);
        rings("layer z of y { } layer y of a { } layer a of\na { }", 2, 3);
        rings("layer a of b { } layer b of c { } layer c of d { } layer d of e { } layer e of f { } layer f of a { }", 1, 1, 2, 3, 4, 5, 6);
        rings("layer a { } layer b of a { } layer c of\nd { } layer d of c { } layer e of f { } layer f of e { }", 2, 3, 4);
        rings("layer a of b { } layer b of\nb { }", 2, 2);
        // Something before it is wrong: then it is no RING.
        rings("coding c = 1 octets ; coding c = 1 octets ; layer a of\na { }", 1);
        rings("layer a of x { } layer b of\nb { }", 1);
        rings("layer b { } layer\nb of\nc { } layer c of c { }", 2);
        rings("variant x = 1 ;\nlayer a of a { }", 1);
        // Something behind it is wrong.
        rings("layer a of a { }\nlayer a of b { } coding c = 1 octets ; coding c = 1 octets ;", 1, 1);
        rings("layer a of a { service s = 1 { param p :\nc ; } }", 1, 1);
        rings("layer a of a { service s = 1 { }\n", 2);

        DescribeText x = new DescribeText();
        Due.is("read()", Due.read(x, "layer a of b { } layer b of a { }"), -1);
        Due.sign(x, "layer a { }");
        Due.is("ring(1) with another text that is not READ", x.ring(1), 2);
        Due.is("read()", x.read(), 0);
        Due.is("ring(0) without a FAULT", x.ring(0), 0);
        Due.is("read()", Due.read(x, "layer a of a { }"), -1);
        Due.is("ring(0)", x.ring(0), 1);
        Due.is("read()", Due.read(x, "layer"), -1);
        Due.is("ring(0) with another FAULT", x.ring(0), 0);
        Due.done();
    }

    private static void rings(String text, int fault, int... want) {
        DescribeText x = new DescribeText();
        Due.is("read() of " + text, Due.read(x, text), -fault);
        for (int i = 0; i < 8; i++) {
            Due.is("ring(" + i + ") of " + text, x.ring(i), i < want.length ? want[i] : 0);
        }
        for (int i : new int[] {-1, Integer.MAX_VALUE, Integer.MIN_VALUE}) {
            Due.is("ring(" + i + ") of " + text, x.ring(i), 0);
        }
    }
}
