/** Promise 1: no text, nothing IN HAND, no ANSWER. */
public final class NewObjectTest {
    public static void main(String[] args) {
        DescribeText x = new DescribeText();
        Due.is("service(1, 0)", x.service(1, 0), -1);
        Due.is("service(1, 9)", x.service(1, 9), -1);
        Due.is("parameter(1, 1, 0)", x.parameter(1, 1, 0), -1);
        Due.is("decode(1, 1, 0)", x.decode(1, 1, 0), -1);
        Due.is("encode(1, 1, 0)", x.encode(1, 1, 0), -1);
        Due.is("variant(0)", x.variant(0), -3);
        Due.is("job(1, 0)", x.job(1, 0), -1);
        Due.is("job(1, -1)", x.job(1, -1), -1);
        Due.is("ring(0)", x.ring(0), 0);
        Due.is("compare(1)", x.compare(1), -1);
        Due.is("compare(0)", x.compare(0), -1);
        Due.is("code(0)", x.code(0), 0);
        Due.is("out", Due.sent(x), "");
        Due.is("a text with a fault in a new object", Due.read(x, "layer"), -1);
        Due.is("variant(0) after a fault", x.variant(0), -3);
        Due.is("compare(1) after a fault", x.compare(1), -1);

        DescribeText y = Due.with("coding a = 1 octets ; layer l { service s = 0 { param x : a ; } }");
        Due.is("decode(1, 1, 2) without an ANSWER", y.decode(1, 1, 2), -1);
        Due.is("decode(1, 1, 1) without an ANSWER", y.decode(1, 1, 1), 0);
        Due.is("a second object has nothing of the first", new DescribeText().service(1, 0), -1);
        Due.done();
    }
}
