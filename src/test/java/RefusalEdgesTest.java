/** REFUSALS change nothing, and the first that fits is the answer. */
public final class RefusalEdgesTest {
    private static final String TEXT = "coding u = 1 octets ; coding k = 2 octets { 7 on ; } layer a { service s = 5 { param p : u ; param q : k when p = 1 ; } }"
            + " layer b of a { service s = 6 { } service t = 7 { param p : u ; } } variant b = 3 ; code 9 = n ; job j { put 1 ; send ; } job e { }";

    public static void main(String[] args) {
        changeNothing();
        firstThatFits();
        notInThisState();
        Due.done();
    }

    private static DescribeText made() {
        DescribeText x = Due.with(TEXT);
        Due.tell(x, 69, 1, 0, 7);
        Due.is("variant(3)", x.variant(3), 2);
        Due.is("encode(1, 1, 1)", x.encode(1, 1, 1), 1);
        Due.is("encode(1, 2, 8)", x.encode(1, 2, 8), 1);
        Due.is("a RING", Due.read(x, "layer l { } layer z of z { }"), -1);
        Due.sign(x, "code 4 =");
        return x;
    }

    /** Everything that can be told of an object; the last calls change it. */
    private static String all(DescribeText x) {
        StringBuilder row = new StringBuilder();
        for (int s = 0; s <= 4; s++) {
            for (int what = 0; what <= 5; what++) {
                row.append(x.service(s, what)).append(' ');
                for (int p = 0; p <= 3; p++) {
                    row.append(x.parameter(s, p, what)).append(' ').append(x.decode(s, p, what)).append(' ');
                }
            }
        }
        for (int i = 0; i <= 6; i++) {
            row.append(x.ring(i)).append(' ').append(x.compare(i)).append(' ').append(x.code(i)).append(' ');
        }
        row.append(x.code(9)).append(" sent ").append(Due.sent(x)).append(" then ");
        Due.sign(x, " m ;");
        row.append(x.encode(3, 1, 2)).append(' ').append(Due.sent(x)).append(' ');
        row.append(x.encode(1, 1, 1)).append(' ').append(Due.sent(x)).append(' ');
        Due.tell(x, 9);
        row.append(x.decode(1, 2, 0)).append(' ').append(x.job(1, 9)).append(' ').append(Due.sent(x)).append(' ');
        return row.append(x.read()).append(' ').append(x.code(4)).append(' ').append(x.compare(1)).append(' ').append(x.compare(2)).toString();
    }

    private static void refuse(int which, DescribeText x) {
        int far = Integer.MAX_VALUE;
        switch (which) {
            case 0: Due.is("service(0, 0)", x.service(0, 0), -1); break;
            case 1: Due.is("service(4, 0)", x.service(4, 0), -1); break;
            case 2: Due.is("service(1, 5)", x.service(1, 5), -2); break;
            case 3: Due.is("parameter(1, 0, 0)", x.parameter(1, 0, 0), -1); break;
            case 4: Due.is("parameter(1, 3, 0)", x.parameter(1, 3, 0), -1); break;
            case 5: Due.is("parameter(1, 1, -1)", x.parameter(1, 1, -1), -2); break;
            case 6: Due.is("decode(4, 1, 0)", x.decode(4, 1, 0), -1); break;
            case 7: Due.is("decode(1, 3, 0)", x.decode(1, 3, 0), -1); break;
            case 8: Due.is("decode(1, 1, 5)", x.decode(1, 1, 5), -2); break;
            case 9: Due.is("encode(0, 1, 9)", x.encode(0, 1, 9), -1); break;
            case 10: Due.is("encode(3, 2, 9)", x.encode(3, 2, 9), -1); break;
            case 11: Due.is("encode(1, 1, 256)", x.encode(1, 1, 256), 0); break;
            case 12: Due.is("encode(3, 1, -1)", x.encode(3, 1, -1), 0); break;
            case 13: Due.is("job(3, 1)", x.job(3, 1), -1); break;
            case 14: Due.is("job(0, 1)", x.job(0, 1), -1); break;
            case 15: Due.is("job(1, -1)", x.job(1, -1), -2); break;
            case 16: Due.is("job(1, 5001)", x.job(1, 5001), -2); break;
            case 17: Due.is("compare(0)", x.compare(0), -1); break;
            case 18: Due.is("compare(2)", x.compare(2), -1); break;
            case 19: Due.is("ring(1)", x.ring(1), 0); break;
            case 20: Due.is("out(-1) throws", Due.outThrows(x, -1) ? 1 : 0, 1); break;
            case 21: Due.is("out(4) throws", Due.outThrows(x, 4) ? 1 : 0, 1); break;
            case 22: Due.is("code(8)", x.code(8), 0); break;
            case 23: Due.is("job(" + far + ", " + far + ")", x.job(far, far), -1); break;
            default: Due.is("decode(1, 2, 9)", x.decode(1, 2, 9), -2);
        }
    }

    private static void changeNothing() {
        Due.sentence("REFUSALS change nothing");
        String want = all(made());
        for (int which = 0; which <= 24; which++) {
            DescribeText x = made();
            refuse(which, x);
            Due.is("everything after refusal " + which, all(x), want);
        }
        DescribeText x = made();
        for (int which = 0; which <= 24; which++) {
            refuse(which, x);
        }
        Due.is("everything after all of them", all(x), want);
    }

    private static void firstThatFits() {
        Due.sentence("the first that fits: -1 an unknown number, -2 outside a range, -3 not in this state, -4 no room");
        DescribeText x = Due.with(TEXT);
        Due.is("service(4, 5)", x.service(4, 5), -1);
        Due.is("service(0, -1)", x.service(0, -1), -1);
        Due.is("parameter(4, 1, 5)", x.parameter(4, 1, 5), -1);
        Due.is("parameter(1, 3, 5)", x.parameter(1, 3, 5), -1);
        Due.is("decode(4, 1, 5)", x.decode(4, 1, 5), -1);
        Due.is("decode(1, 3, 5)", x.decode(1, 3, 5), -1);
        Due.is("encode(4, 1, 256)", x.encode(4, 1, 256), -1);
        Due.is("encode(1, 3, 256)", x.encode(1, 3, 256), -1);
        Due.is("job(3, 5001)", x.job(3, 5001), -1);
        Due.is("job(0, -1)", x.job(0, -1), -1);
        // A send without a number and without room: -3 goes before -4.
        DescribeText full = Due.with("job j { put 64 ; dup ; while { dup ; send ; put 1 ; sub ; dup ; } drop ; send ; }");
        Due.is("job(1, 5000)", full.job(1, 5000), -3);
    }

    private static void notInThisState() {
        Due.sentence("-3 nothing is IN HAND (of variant alone; by other numbers nothing is known)");
        DescribeText x = new DescribeText();
        Due.is("variant(3)", x.variant(3), -3);
        Due.is("service(1, 9)", x.service(1, 9), -1);
        Due.is("parameter(1, 1, 9)", x.parameter(1, 1, 9), -1);
        Due.is("decode(1, 1, 9)", x.decode(1, 1, 9), -1);
        Due.is("encode(1, 1, 1)", x.encode(1, 1, 1), -1);
        Due.is("job(1, 9999)", x.job(1, 9999), -1);
        Due.is("compare(1)", x.compare(1), -1);
        Due.is("code(9)", x.code(9), 0);
        Due.is("a text", Due.read(x, TEXT), 3);
        Due.is("variant(3): the refused one changed nothing", x.service(3, 4), 0);
    }
}
