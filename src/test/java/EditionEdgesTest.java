/** The edges of a new object, of EDITIONS, of what is IN HAND and IN USE, and of read (promises 1 and 3). */
public final class EditionEdgesTest {
    public static void main(String[] args) {
        newObject();
        numbered();
        firstFourAreKept();
        lastIsInHand();
        firstLayerIsInUse();
        howManyServices();
        textIsEmptyThen();
        staysInHand();
        sentAndAnswerStay();
        Due.done();
    }

    private static void newObject() {
        Due.sentence("No text, nothing IN HAND, no ANSWER");
        DescribeText x = new DescribeText();
        Due.is("service(1, 0)", x.service(1, 0), -1);
        Due.is("service(0, 0)", x.service(0, 0), -1);
        Due.is("parameter(1, 1, 0)", x.parameter(1, 1, 0), -1);
        Due.is("decode(1, 1, 0)", x.decode(1, 1, 0), -1);
        Due.is("encode(1, 1, 0)", x.encode(1, 1, 0), -1);
        Due.is("variant(0)", x.variant(0), -3);
        Due.is("job(1, 1)", x.job(1, 1), -1);
        Due.is("ring(0)", x.ring(0), 0);
        Due.is("compare(1)", x.compare(1), -1);
        Due.is("code(0)", x.code(0), 0);
        Due.is("out(0) throws", Due.outThrows(x, 0) ? 1 : 0, 1);
        Due.is("read() of no text", x.read(), 0);
        Due.is("variant(0) then", x.variant(0), 0);
        Due.is("compare(1) then", x.compare(1), 0);
        DescribeText y = Due.with("coding c = 1 octets { 0 z ; } layer l { service s = 0 { param p : c ; } }");
        Due.is("decode(1, 1, 2): no ANSWER", y.decode(1, 1, 2), -1);
        y.octet((byte) 64);
        Due.is("decode(1, 1, 2): its first octet", y.decode(1, 1, 2), -1);
        y.octet((byte) 0);
        Due.is("decode(1, 1, 2): its second octet", y.decode(1, 1, 2), 1);
    }

    private static String services(int count) {
        return "layer l {" + Due.many("service s# = # { }", count) + "}";
    }

    private static void numbered() {
        Due.sentence("EDITIONS are the texts that were READ without a FAULT, numbered from 1 on");
        DescribeText x = new DescribeText();
        Due.is("a text with a FAULT", Due.read(x, "layer"), -1);
        Due.is("compare(1)", x.compare(1), -1);
        Due.sign(x, services(2));
        Due.is("compare(1) with a text that is not READ", x.compare(1), -1);
        Due.is("read()", x.read(), 2);
        Due.is("compare(1)", x.compare(1), 0);
        Due.is("compare(0)", x.compare(0), -1);
        Due.is("compare(2)", x.compare(2), -1);
        Due.is("a text that is wrong", Due.read(x, "layer a { } layer a { }"), -1);
        Due.is("a text with a RING", Due.read(x, "layer a of a { }"), -1);
        Due.is("compare(2)", x.compare(2), -1);
        Due.is("read()", Due.read(x, services(5)), 5);
        Due.is("compare(1)", x.compare(1), 3);
        Due.is("compare(2)", x.compare(2), 0);
        Due.is("compare(3)", x.compare(3), -1);
    }

    private static void firstFourAreKept() {
        Due.sentence("the first 4 are kept; -1 there is no such EDITION, or it is not kept");
        DescribeText x = new DescribeText();
        for (int i = 1; i <= 7; i++) {
            Due.is("read()", Due.read(x, services(2 * i)), 2 * i);
            for (int k = -1; k <= 8; k++) {
                Due.is("compare(" + k + ") with " + i, x.compare(k), k >= 1 && k <= i && k <= 4 ? 2 * i - 2 * k : -1);
            }
        }
        for (int far : new int[] {Integer.MAX_VALUE, Integer.MIN_VALUE, 1 << 16, 257}) {
            Due.is("compare(" + far + ")", x.compare(far), -1);
        }
        Due.is("read()", Due.read(x, services(3)), 3);
        int[] want = {1, 0, 0, 0};
        for (int k = 1; k <= 4; k++) {
            Due.is("compare(" + k + ") of three services", x.compare(k), want[k - 1]);
        }
    }

    private static void lastIsInHand() {
        Due.sentence("the last one is IN HAND");
        DescribeText x = new DescribeText();
        for (int i = 1; i <= 7; i++) {
            Due.is("read()", Due.read(x, "code " + i + " = n ; layer l { service s = " + i + " { } }" + Due.many("layer m# { }", i % 5)), 1);
            Due.is("service(1, 1)", x.service(1, 1), i);
            Due.is("code(" + i + ")", x.code(i), 1);
            Due.is("code(" + (i - 1) + ")", x.code(i - 1), 0);
        }
    }

    private static void firstLayerIsInUse() {
        Due.sentence("Its layer IN USE is the first one at first");
        String text = "layer a { service s = 1 { } } layer b { service s = 2 { } service t = 3 { } } variant b = 5 ;";
        DescribeText x = Due.with(text);
        Due.is("service(2, 4)", x.service(2, 4), 1);
        Due.is("service(3, 4)", x.service(3, 4), 0);
        Due.is("variant(5)", x.variant(5), 2);
        Due.is("service(1, 4)", x.service(1, 4), 2);
        Due.is("a text with a FAULT", Due.read(x, "layer"), -1);
        Due.is("service(1, 4) stays", x.service(1, 4), 2);
        Due.is("the same text once more", Due.read(x, text), 3);
        Due.is("service(1, 4) is the first one's", x.service(1, 4), 1);
        // Also when a variant names the first layer.
        DescribeText y = Due.with("variant a = 5 ; layer a { service s = 1 { } } layer b { service s = 2 { } }");
        Due.is("service(2, 4)", y.service(2, 4), 1);
    }

    private static void howManyServices() {
        Due.sentence("how many services it has; or minus the FAULT");
        for (int count = 0; count <= 16; count++) {
            Due.reads(services(count), count);
            Due.reads("layer k { service a = 1 { } } layer m { }" + services(Math.min(count, 15)), Math.min(count, 15) + 1);
        }
        Due.reads(services(16) + "\n\n}", -3);
        Due.reads("", 0);
        Due.reads("layer l { }", 0);
    }

    private static void textIsEmptyThen() {
        Due.sentence("The text is READ, and empty then");
        DescribeText x = new DescribeText();
        Due.is("a text with a FAULT", Due.read(x, "layer a {"), -1);
        Due.is("what would be behind it", Due.read(x, "}"), -1);
        Due.is("read() of no text", x.read(), 0);
        Due.is("a text", Due.read(x, "layer a { service s = 1 { } }"), 1);
        Due.is("read() of no text", x.read(), 0);
        Due.is("compare(3): these were three EDITIONS", x.compare(3), 0);
        Due.is("compare(4)", x.compare(4), -1);
        // After a text there is room for 2000 again, and LINES are counted from 1 on.
        DescribeText half = new DescribeText();
        Due.is("1001 octets", Due.read(half, Due.many("\n", 1000) + "}"), -1001);
        Due.is("1001 octets more", Due.read(half, Due.many("\n", 1000) + "}"), -1001);
        Due.is("one more", Due.read(half, "}"), -1);
        DescribeText full = new DescribeText();
        Due.is("2000 octets", Due.read(full, Due.many("\n", 1999) + "}"), -2000);
        Due.is("a few behind a full text", Due.read(full, "\n}"), -2);
    }

    private static void staysInHand() {
        Due.sentence("minus the FAULT (what is IN HAND stays)");
        for (String fault : new String[] {"}", "layer a { } layer a { }", "layer a of a { }", "code 1 = n ; code 1 = n ;", "coding c = 5 octets ;", "\u0001"}) {
            DescribeText x = Due.with("coding c = 1 octets { 9 on ; } layer l { service s = 5 { param p : c ; } } code 7 = k ; job j { put 3 ; send ; } variant l = 2 ;");
            Due.tell(x, 69, 9);
            Due.is("a FAULT", Due.read(x, fault), -1);
            Due.is("service(1, 1)", x.service(1, 1), 5);
            Due.is("parameter(1, 1, 1)", x.parameter(1, 1, 1), 1);
            Due.is("decode(1, 1, 4)", x.decode(1, 1, 4), 2);
            Due.is("code(7)", x.code(7), 6);
            Due.is("variant(2)", x.variant(2), 1);
            Due.is("variant(3)", x.variant(3), 0);
            Due.is("compare(1)", x.compare(1), 0);
            Due.is("compare(2)", x.compare(2), -1);
            Due.is("job(1, 2)", x.job(1, 2), 1);
        }
    }

    private static void sentAndAnswerStay() {
        Due.sentence("What is SENT, and the ANSWER, stay");
        DescribeText x = Due.with("coding c = 1 octets ; layer l { service s = 5 { param p : c ; param q : c ; } }");
        Due.is("encode(1, 1, 9)", x.encode(1, 1, 9), 1);
        Due.tell(x, 70, 1);
        Due.is("a FAULT", Due.read(x, "}"), -1);
        Due.is("SENT", Due.sent(x), "69 9 0");
        Due.is("another text", Due.read(x, "coding d = 2 octets ; layer l { service s = 6 { param p : d ; } }"), 1);
        Due.is("SENT", Due.sent(x), "69 9 0");
        Due.is("decode(1, 1, 2)", x.decode(1, 1, 2), -1);
        Due.tell(x, 2);
        Due.is("decode(1, 1, 0) of the ANSWER that went on", x.decode(1, 1, 0), 258);
        Due.is("no text", x.read(), 0);
        Due.is("SENT", Due.sent(x), "69 9 0");
    }
}
