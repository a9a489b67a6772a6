/** Promise 7: octets for the ANSWER. */
public final class OctetTest {
    public static void main(String[] args) {
        DescribeText x = new DescribeText();
        Due.tell(x, 69, 200);
        Due.read(x, "coding u = 1 octets ; coding g = 1 octets signed ; coding q = 4 octets ;"
                + " layer l { service s = 5 { param a : u ; param b : q times a ; param c : q times a ; } service t = 191 { param a : g ; } }");
        Due.is("octets before any text", x.decode(1, 1, 0), 200);

        DescribeText full = Due.with("coding u = 1 octets ; coding q = 4 octets ; layer l { service s = 5 { param n : u ; param a : q times n ;"
                + " param b : q times n ; param c : q ; param d : u ; } }");
        Due.tell(full, 69, 7);
        for (int i = 2; i < 63; i++) {
            Due.tell(full, i);
        }
        Due.is("decode(1, 4, 2) with 63 octets", full.decode(1, 4, 2), 58);
        Due.is("decode(1, 5, 2) with 63 octets", full.decode(1, 5, 0), 62);
        Due.tell(full, 70);
        Due.is("decode(1, 5, 0) with 64 octets", full.decode(1, 5, 0), 62);
        Due.is("decode(1, 1, 0) with 64 octets", full.decode(1, 1, 0), 7);
        Due.tell(full, 69);
        Due.is("decode(1, 1, 2) with one octet", full.decode(1, 1, 2), -1);
        Due.tell(full, 9);
        Due.is("decode(1, 1, 0) in another ANSWER", full.decode(1, 1, 0), 9);
        Due.is("decode(1, 2, 2) in another ANSWER", full.decode(1, 2, 2), -1);

        DescribeText minus = Due.with("coding g = 1 octets signed ; layer l { service t = 191 { param a : g ; } }");
        minus.octet((byte) -1);
        minus.octet((byte) -128);
        Due.is("decode(1, 1, 0) by octets below 0", minus.decode(1, 1, 0), -128);
        Due.done();
    }
}
