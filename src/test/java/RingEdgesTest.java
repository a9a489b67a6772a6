/** The edges of ring (promise 12). */
public final class RingEdgesTest {
    public static void main(String[] args) {
        lengths();
        beginsWithThatName();
        severalRings();
        noRing();
        lastText();
        Due.done();
    }

    private static void rings(String text, int fault, int... want) {
        DescribeText x = new DescribeText();
        Due.is("read() of [" + text + "]", Due.read(x, text), -fault);
        rings(x, text, want);
    }

    private static void rings(DescribeText x, String text, int... want) {
        for (int i = 0; i <= 20; i++) {
            Due.is("ring(" + i + ") of [" + text + "]", x.ring(i), i < want.length ? want[i] : 0);
        }
        for (int i : new int[] {-1, -2, -6, Integer.MAX_VALUE, Integer.MIN_VALUE}) {
            Due.is("ring(" + i + ") of [" + text + "]", x.ring(i), 0);
        }
    }

    private static void lengths() {
        Due.sentence("Layer i (from 0) of the RING for which the last text was refused; 0 if there is none");
        for (int length = 1; length <= 6; length++) {
            for (int before = 0; before + length <= 6; before++) {
                StringBuilder text = new StringBuilder();
                int[] want = new int[length];
                text.append(Due.many("layer b# { }", before));
                for (int i = 0; i < length; i++) {
                    text.append("layer r").append(i).append(" of\nr").append((i + 1) % length).append(" { }");
                    want[i] = before + i + 1;
                }
                rings(text.toString(), 2, want);
            }
        }
    }

    private static void beginsWithThatName() {
        Due.sentence("the layer of that NAME's statement, then the one that it is OF, and so on");
        rings("layer a of c { } layer b of a { } layer c of b { }", 1, 1, 3, 2);
        rings("layer a of d { } layer b of a { } layer c of b { } layer d of c { }", 1, 1, 4, 3, 2);
        rings("layer z of c { }\nlayer a of c { } layer b of a { } layer c of b { }", 2, 2, 4, 3);
        rings("layer z of y { } layer y of a { }\nlayer a of\nb { } layer b of a { }", 3, 3, 4);
        rings("layer z of y { } layer y of x { } layer x of w { } layer w of v { } layer v of\nu { } layer u of v { }", 2, 5, 6);
        rings("layer z of y { } layer y of x { } layer x of w { } layer w of v { } layer v of u { } layer u of\nu { }", 2, 6);
        rings("layer a of b { service s = 1 { } } layer b of a { service s = 1 { } }", 1, 1, 2);
    }

    private static void severalRings() {
        Due.sentence("it is the LINE of the first NAME .. in a layer that lies in a RING");
        rings("layer a of\nb { } layer c of d { } layer b of a { } layer d of c { }", 2, 1, 3);
        rings("layer c of\nd { } layer a of b { } layer b of a { } layer d of c { }", 2, 1, 4);
        rings("layer a { } layer b of a { } layer c of\nc { } layer d of d { }", 2, 3);
        rings("layer z of d { } layer d of\nd { } layer c of c { }", 2, 2);
    }

    private static void noRing() {
        Due.sentence("0 if there is none, or it was not refused for a RING");
        rings("layer a of b { } layer b { } layer a of a { }", 1);
        rings("variant x = 1 ; layer a of\na { }", 1);
        rings("coding c = 1 octets ; coding c = 1 octets ; layer a of\na { }", 1);
        rings("layer a of a { }\n}", 2);
        rings("layer a of a { }\nlayer", 2);
        rings("layer a of x { } layer b of\nb { }", 1);
        rings("layer a of a { } variant\nx = 1 ; layer a { }", 1, 1);
        rings("layer a of a { service s = 1 { param p :\nx ; } }", 1, 1);
        rings("layer a { service s = 1 { param p : x ; } } layer b of\nb { }", 1);
        DescribeText x = Due.with("layer a of b { } layer b { }");
        rings(x, "a text without a FAULT");
        rings(new DescribeText(), "nothing");
    }

    private static void lastText() {
        Due.sentence("of the RING for which the last text was refused");
        DescribeText x = Due.with("layer a { service s = 1 { } } layer b { }");
        Due.is("a RING", Due.read(x, "layer c { } layer a of b { } layer b of a { }"), -1);
        rings(x, "a RING", 2, 3);
        Due.is("what is IN HAND stays", x.service(1, 3), 1);
        Due.sign(x, "layer a of a { }");
        rings(x, "a RING and signs behind", 2, 3);
        Due.is("variant(1)", x.variant(1), 1);
        x.octet((byte) 1);
        Due.is("job(1, 1)", x.job(1, 1), -1);
        rings(x, "a RING and calls behind", 2, 3);
        Due.is("another RING", x.read(), -1);
        rings(x, "another RING", 1);
        Due.is("another FAULT", Due.read(x, "}"), -1);
        rings(x, "another FAULT");
        Due.is("a RING", Due.read(x, "layer a of a { }"), -1);
        rings(x, "a RING again", 1);
        Due.is("no FAULT", x.read(), 0);
        rings(x, "no FAULT");
    }
}
