import java.util.Random;

/** Any calls in any state: only out throws, and what encode SENDS tells the same values as an ANSWER. */
public final class AnyCallsTest {
    private static final String[] PARTS = ("coding octets signed scale plus layer of service param when times code variant job put get add sub mul"
            + " dup swap drop send while { } { } ; ; ; : = / - a b c d 0 1 2 3 5 191 192 255 999999 1000000 1x abcdefghijklm A \u0001 \n").split(" ");
    private static final int[] EDGES = {0, 1, 2, 3, 4, 5, 8, 9, 16, 17, 63, 64, 65, -1, -2, 255, 256, 5000, 5001,
        Integer.MAX_VALUE, Integer.MIN_VALUE};
    /** So many kinds of calls are runs of sign. */
    private static final int TEXTS = 2;
    private static final Random RANDOM = new Random(20261115);

    public static void main(String[] args) {
        for (int run = 0; run < 400; run++) {
            anyCalls();
            roundTrip();
        }
        Due.done();
    }

    private static int pick(int count) {
        return RANDOM.nextInt(count);
    }

    private static int edge() {
        return pick(10) == 0 ? RANDOM.nextInt() : EDGES[pick(EDGES.length)];
    }

    private static long far() {
        return pick(3) == 0 ? RANDOM.nextLong() >> pick(64) : edge();
    }

    private static void anyCalls() {
        DescribeText x = new DescribeText();
        String last = "new";
        try {
            for (int left = 512; left > 0;) {
                int which = pick(16);
                last = "call " + which;
                left -= which < TEXTS ? signSome(x, which, left) : oneCall(x, which);
            }
        } catch (RuntimeException e) {
            Due.is(last, e.toString(), "nothing thrown");
        }
    }

    /** Signs as much of a text as the calls that are left can, and answers how many calls that were. */
    private static int signSome(DescribeText x, int which, int left) {
        String text = which == 0 ? PARTS[pick(PARTS.length)] + " " : anyText();
        String some = text.substring(0, Math.min(text.length(), 4 * left));
        Due.sign(x, some);
        return (some.length() + 3) / 4;
    }

    private static int oneCall(DescribeText x, int which) {
        switch (which) {
            case 2: x.sign(RANDOM.nextInt()); break;
            case 3: case 4: x.read(); break;
            case 5: x.service(edge(), edge()); break;
            case 6: x.parameter(edge(), edge(), edge()); break;
            case 7: x.decode(edge(), edge(), edge()); break;
            case 8: x.octet((byte) edge()); break;
            case 9: x.encode(edge(), edge(), far()); break;
            case 10: Due.outThrows(x, edge()); break;
            case 11: x.variant(edge()); break;
            case 12: x.job(edge(), far()); break;
            case 13: x.ring(edge()); break;
            case 14: x.compare(edge()); break;
            default: x.code(edge());
        }
        return 1;
    }

    /** A text that goes well, or one with a token changed. */
    private static String anyText() {
        String text = codings() + "layer a { " + service("s", 1) + "} layer b of a { " + service("s", 2) + service("t", 5)
                + "} variant a = 1 ; code 3 = b ; job j { get s p0 ; dup ; while { send ; put 1 ; dup ; } } job k { put 3 ; dup ; mul ; send ; } ";
        if (pick(2) == 0) {
            return text;
        }
        String[] tokens = text.split(" ");
        tokens[pick(tokens.length)] = PARTS[pick(PARTS.length)];
        return String.join(" ", tokens);
    }

    private static String codings() {
        return "coding c0 = 1 octets ; coding c1 = 1 octets signed ; coding c2 = 4 octets signed ; coding c3 = " + (1 + pick(4))
                + " octets scale " + (pick(2) == 0 ? "- " : "") + pick(1000) + " / " + (1 + pick(20)) + " plus - " + pick(100)
                + " ; coding c4 = 2 octets { 0 off ; 1 on ; } ";
    }

    private static String service(String name, int z) {
        StringBuilder text = new StringBuilder("service " + name + " = " + z + " { ");
        int count = 1 + pick(8);
        for (int i = 0; i < count; i++) {
            text.append("param p").append(i).append(" : c").append(pick(5));
            if (i > 0 && pick(3) == 0) {
                text.append(" when p").append(pick(i)).append(" = ").append(pick(3));
            } else if (i > 0 && pick(3) == 0) {
                text.append(" times p").append(pick(i));
            }
            text.append(" ; ");
        }
        return text.append("} ").toString();
    }

    private static void roundTrip() {
        DescribeText x = Due.with(codings() + "layer l { " + service("s", pick(192)) + "}");
        int count = x.service(1, 2);
        long[] values = new long[count + 1];
        boolean[] known = new boolean[count + 1];
        for (int i = 0; i < 3 * count; i++) {
            int p = 1 + pick(count);
            long v = pick(2) == 0 ? pick(10) - 3 : pick(100000) - 500;
            if (x.encode(1, p, v) == 1) {
                values[p] = v;
                known[p] = true;
            }
        }
        String sent = Due.sent(x);
        if (sent.isEmpty()) {
            return;
        }
        String[] octets = sent.split(" ");
        for (String octet : octets) {
            Due.tell(x, Integer.parseInt(octet));
        }
        long end = 1;
        for (int p = 1; p <= count; p++) {
            if (x.decode(1, p, 2) >= 0) {
                Due.is("the place of " + p, x.decode(1, p, 2), end);
                end += x.decode(1, p, 3);
                if (known[p]) {
                    Due.is("decode(1, " + p + ", 0)", x.decode(1, p, 0), values[p]);
                    Due.is("decode(1, " + p + ", 1)", x.decode(1, p, 1), 1);
                }
            }
        }
        Due.is("all octets of " + sent, end, octets.length);
    }
}
