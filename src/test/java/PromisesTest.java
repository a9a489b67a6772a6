import java.io.IOException;

/** The document's promises from the first to the last, each sentence in its order with the answers that it asks for. */
public final class PromisesTest {
    private static final String CODINGS = "coding u = 1 octets ; coding w = 2 octets ; coding g = 1 octets signed ; coding h = 2 octets signed ;"
            + " coding f = 1 octets scale 3 / 2 plus - 5 ; coding z = 1 octets scale 0 / 1 plus 5 ; coding t = 1 octets { 0 off ; 1 on ; } ";
    private static Document doc;

    public static void main(String[] args) throws IOException {
        doc = Document.between("## Promise 1", "");
        newObject();
        sign();
        read();
        service();
        parameter();
        decode();
        octet();
        encode();
        encodeSends();
        out();
        variant();
        job();
        jobOps();
        jobWhile();
        jobRefusals();
        ring();
        compare();
        compareCodings();
        code();
        notPromised();
        doc.ends();
        Due.done();
    }

    private static DescribeText with(String parameters, int... octets) {
        DescribeText x = Due.with(CODINGS + "layer l { service s = 5 { " + parameters + " } }");
        Due.tell(x, octets);
        return x;
    }

    private static void newObject() {
        doc.says("`DescribeText()`: No text, nothing IN HAND, no ANSWER.");
        DescribeText x = new DescribeText();
        Due.is("variant(1)", x.variant(1), -3);
        Due.is("service(1, 0)", x.service(1, 0), -1);
        Due.is("compare(1)", x.compare(1), -1);
        Due.is("read() of no text", x.read(), 0);
        Due.is("a text", Due.read(x, "coding u = 1 octets ; layer l { service s = 0 { param p : u ; } }"), 1);
        Due.is("decode(1, 1, 2) in no ANSWER", x.decode(1, 1, 2), -1);
    }

    private static void sign() {
        doc.says("`void sign(int c)`: Four octets more for the text, the highest first;");
        DescribeText x = new DescribeText();
        x.sign('c' << 24 | 'o' << 16 | 'd' << 8 | 'e');
        x.sign(' ' << 24 | '1' << 16 | '=' << 8 | 'n');
        x.sign(';' << 24 | '\n' << 16 | '\n' << 8 | 255);
        Due.is("read(): octet 255 stands on line 3", x.read(), -3);
        x.sign(0x8080800a);
        Due.is("read() of octets above 127", x.read(), -1);
        doc.says("those that are 0 are passed over, and what comes behind 2000 is lost.");
        DescribeText y = new DescribeText();
        x.sign(0);
        x.sign('j' << 16 | 'o');
        x.sign('b' << 24);
        x.sign(' ' << 8 | 'j');
        x.sign('{' << 24 | '}');
        Due.is("read() with zeros between", x.read(), 0);
        Due.is("job(1, 0)", x.job(1, 0), 1);
        Due.sign(y, Due.many("\n", 1998));
        y.sign('\n' << 24 | '}' << 8 | '?');
        Due.is("read(): the } is octet 2000", y.read(), -2000);
        DescribeText z = new DescribeText();
        Due.sign(z, Due.many("\n", 1998));
        z.sign('\n' << 24 | '\n' << 16 | '}' << 8 | '?');
        Due.is("read(): the } is octet 2001", z.read(), 0);
    }

    private static void read() {
        doc.says("`int read()`: The text is READ, and empty then:");
        DescribeText x = new DescribeText();
        Due.is("a text", Due.read(x, "layer l { service s = 5 { } }"), 1);
        Due.is("the next one has nothing of it", x.read(), 0);
        Due.is("half a text", Due.read(x, "layer l {"), -1);
        Due.is("the other half", Due.read(x, "}"), -1);
        doc.says("how many services it has; or minus the FAULT (what is IN HAND stays).");
        DescribeText y = new DescribeText();
        Due.is("three services", Due.read(y, "layer l { service s = 5 { } } layer m { service s = 6 { } service t = 7 { } }"), 3);
        Due.is("a FAULT on line 3", Due.read(y, "layer l {\nservice s = 5 { }\nservice = 6 { } }"), -3);
        Due.is("service(3, 1)", y.service(3, 1), 7);
        Due.is("a wrong NAME on line 2", Due.read(y, "layer l { }\nlayer l { }"), -2);
        Due.is("service(3, 1)", y.service(3, 1), 7);
        doc.says("What is SENT, and the ANSWER, stay.");
        DescribeText z = with("param a : u ;", 70, 8);
        Due.is("encode(1, 1, 9)", z.encode(1, 1, 9), 1);
        Due.is("a text", Due.read(z, "coding c = 1 octets ; layer l { service r = 6 { param a : c ; } }"), 1);
        Due.is("SENT", Due.sent(z), "69 9");
        Due.is("decode(1, 1, 0)", z.decode(1, 1, 0), 8);
        Due.is("a FAULT", Due.read(z, "?"), -1);
        Due.is("SENT", Due.sent(z), "69 9");
        Due.is("decode(1, 1, 0)", z.decode(1, 1, 0), 8);
    }

    private static void service() {
        doc.says("`int service(int i, int what)`: Of a service: what = 0 its NAME's number, 1 its Z, 2 how many parameters, 3 its layer,"
                + " 4 the service that the layer IN USE has by that NAME: its own first one, otherwise that of the layer that it is OF, and so on; 0 for none.");
        DescribeText x = Due.with("coding c = 1 octets ; layer low { service s = 0 { param p : c ; param q : c ; } service t = 191 { } }"
                + " layer mid of low { service t = 7 { } } layer top of mid { service s = 8 { } } layer far { service u = 9 { } }"
                + " variant low = 1 ; variant mid = 2 ; variant top = 3 ; variant far = 4 ;");
        // c 1, low 2, s 3, p 4, q 5, t 6, mid 7, top 8, far 9, u 10
        int[][] want = {{3, 0, 2, 1}, {6, 191, 0, 1}, {6, 7, 0, 2}, {3, 8, 0, 3}, {10, 9, 0, 4}};
        for (int i = 1; i <= 5; i++) {
            for (int what = 0; what < 4; what++) {
                Due.is("service(" + i + ", " + what + ")", x.service(i, what), want[i - 1][what]);
            }
        }
        int[][] inUse = {{1, 2, 2, 1, 0}, {1, 3, 3, 1, 0}, {4, 3, 3, 4, 0}, {0, 0, 0, 0, 5}, {0, 0, 0, 0, 0}};
        for (int v = 1; v <= 5; v++) {
            Due.is("variant(" + v + ")", x.variant(v), v % 5);
            for (int i = 1; i <= 5; i++) {
                Due.is("service(" + i + ", 4) with layer " + v, x.service(i, 4), inUse[v - 1][i - 1]);
            }
        }
        doc.says("-1 there is none, -2 no such what.");
        for (int none : new int[] {0, -1, 6, Integer.MAX_VALUE, Integer.MIN_VALUE}) {
            Due.is("service(" + none + ", 0)", x.service(none, 0), -1);
            Due.is("service(" + none + ", 5)", x.service(none, 5), -1);
            Due.is("service(1, what)", x.service(1, none == 0 ? 5 : none), -2);
        }
    }

    private static void parameter() {
        doc.says("`int parameter(int service, int i, int what)`: Of parameter i of a service: what = 0 its NAME's number, 1 its coding,"
                + " 2 1 with when, 2 with times, otherwise 0, 3 which earlier one (0 for none), 4 the Z behind when (0 without).");
        DescribeText x = Due.with("coding c = 1 octets ; coding d = 1 octets ; layer l { service s = 5 { param p : d ; param q : c when p = 77 ; param r : d times q ;"
                + " param t : c when p = 0 ; } service v = 6 { } }");
        // c 1, d 2, l 3, s 4, p 5, q 6, r 7, t 8
        int[][] want = {{5, 2, 0, 0, 0}, {6, 1, 1, 1, 77}, {7, 2, 2, 2, 0}, {8, 1, 1, 1, 0}};
        for (int i = 1; i <= 4; i++) {
            for (int what = 0; what < 5; what++) {
                Due.is("parameter(1, " + i + ", " + what + ")", x.parameter(1, i, what), want[i - 1][what]);
            }
        }
        doc.says("-1, -2 likewise.");
        for (int none : new int[] {0, -1, 5, Integer.MAX_VALUE, Integer.MIN_VALUE}) {
            Due.is("parameter(1, " + none + ", 0)", x.parameter(1, none, 0), -1);
            Due.is("parameter(" + none + ", 1, 0)", x.parameter(none, 1, 0), -1);
            Due.is("parameter(2, 1, " + none + ")", x.parameter(2, 1, none), -1);
            Due.is("parameter(1, 1, what)", x.parameter(1, 1, none == 0 ? 5 : none), -2);
        }
    }

    private static void sides(DescribeText x, int parameter, long... want) {
        for (int side = 0; side < 5; side++) {
            Due.is("decode(1, " + parameter + ", " + side + ")", x.decode(1, parameter, side), want[side]);
        }
    }

    private static void decode() {
        doc.says("`long decode(int service, int parameter, int side)`: Of a parameter of a service in the ANSWER: side 0 what is above in its VALUE"
                + " (lowest terms, what is below is above 0), 1 what is below, 2 the place of its first octet, 3 how many octets it has,"
                + " 4 the number of the NAME that its TABLE has for its RAW (0 for none).");
        DescribeText x = with("param n : u ; param a : f ; param b : f ; param d : w times n ; param e : t ; param k : t ;", 69, 2, 3, 4, 1, 2, 3, 4, 1, 2);
        sides(x, 1, 2, 1, 1, 1, 0);
        sides(x, 2, -1, 2, 2, 1, 0);
        sides(x, 3, 1, 1, 3, 1, 0);
        sides(x, 4, 258, 1, 4, 4, 0);
        // u 1, w 2, g 3, h 4, f 5, z 6, t 7, off 8, on 9
        sides(x, 5, 1, 1, 8, 1, 9);
        sides(x, 6, 2, 1, 9, 1, 0);
        sides(with("param a : t ;", 69, 0), 1, 0, 1, 1, 1, 8);
        sides(with("param a : z ;", 69, 9), 1, 5, 1, 1, 1, 0);
        doc.says("If it is not there, -1 for side 2, and 0 for others.");
        sides(with("param n : u ; param a : t when n = 1 ; param b : f times n ; param d : z ;", 69, 0), 2, 0, 0, -1, 0, 0);
        sides(with("param n : u ; param a : t when n = 1 ; param b : f times n ; param d : z ;", 69, 0), 3, 0, 0, -1, 0, 0);
        sides(with("param n : u ; param a : t when n = 1 ; param b : f times n ; param d : z ;", 69, 0), 4, 0, 0, -1, 0, 0);
        sides(with("param a : t ;", 70, 0), 1, 0, 0, -1, 0, 0);
        doc.says("-1, -2 likewise.");
        DescribeText one = with("param a : u ;", 69, 7);
        for (int none : new int[] {0, -1, 2, Integer.MAX_VALUE, Integer.MIN_VALUE}) {
            Due.is("decode(" + none + ", 1, 0)", one.decode(none, 1, 0), -1);
            Due.is("decode(1, " + none + ", 9)", one.decode(1, none, 9), -1);
        }
        for (int side : new int[] {-1, 5, Integer.MAX_VALUE, Integer.MIN_VALUE}) {
            Due.is("decode(1, 1, " + side + ")", one.decode(1, 1, side), -2);
        }
    }

    private static void octet() {
        doc.says("`void octet(byte b)`: An octet more for the ANSWER; a 65th one begins another ANSWER.");
        DescribeText x = with("param a : w ; param b : g ;");
        int[] octets = {69, 1, 2, 128};
        int[] there = {0, 0, 1, 2};
        for (int i = 0; i < 4; i++) {
            Due.tell(x, octets[i]);
            Due.is("decode(1, 1, 2) with " + (i + 1) + " octets", x.decode(1, 1, 2), there[i] > 0 ? 1 : -1);
            Due.is("decode(1, 2, 2) with " + (i + 1) + " octets", x.decode(1, 2, 2), there[i] > 1 ? 3 : -1);
        }
        Due.is("an octet above 127", x.decode(1, 2, 0), -128);
        for (int i = 5; i <= 64; i++) {
            Due.tell(x, 69);
        }
        Due.is("decode(1, 1, 0) with 64 octets", x.decode(1, 1, 0), 258);
        Due.tell(x, 69, 3);
        Due.is("decode(1, 1, 2) with 66 octets", x.decode(1, 1, 2), -1);
        Due.tell(x, 4);
        Due.is("decode(1, 1, 0) with 67 octets", x.decode(1, 1, 0), 772);
    }

    private static void encodes(String coding, long v, int want, String sent) {
        DescribeText x = with("param a : " + coding + " ;");
        Due.is("encode(1, 1, " + v + ") of " + coding, x.encode(1, 1, v), want);
        Due.is("SENT by " + v + " of " + coding, Due.sent(x), sent);
    }

    private static void encode() {
        doc.says("`int encode(int service, int parameter, long v)`: The RAW by which a parameter has a VALUE: 1, or 0 if there is none that its octets can have");
        encodes("u", 0, 1, "69 0");
        encodes("u", 255, 1, "69 255");
        encodes("u", 256, 0, "");
        encodes("u", -1, 0, "");
        encodes("w", 258, 1, "69 1 2");
        encodes("w", 65536, 0, "");
        encodes("g", -128, 1, "69 128");
        encodes("g", -129, 0, "");
        encodes("g", 128, 0, "");
        encodes("h", -2, 1, "69 255 254");
        encodes("t", 200, 1, "69 200");
        encodes("u", Long.MAX_VALUE, 0, "");
        encodes("f", Long.MIN_VALUE, 0, "");
        doc.says("(RAW is whole; then nothing changes; so it is when the first V is 0).");
        encodes("f", -5, 1, "69 0");
        encodes("f", -2, 1, "69 2");
        encodes("f", -3, 0, "");
        encodes("f", -8, 0, "");
        encodes("f", 376, 1, "69 254");
        encodes("f", 379, 0, "");
        encodes("z", 5, 0, "");
        encodes("z", 0, 0, "");
        DescribeText x = with("param a : f ; param b : z ;");
        Due.is("encode(1, 1, 4)", x.encode(1, 1, 4), 1);
        Due.is("encode(1, 1, 5)", x.encode(1, 1, 5), 0);
        Due.is("encode(1, 2, 5)", x.encode(1, 2, 5), 0);
        Due.is("nothing changes", Due.sent(x), "69 6 0");
    }

    private static void encodeSends() {
        doc.says("For each service the RAWS are remembered, 0 at first.");
        DescribeText x = Due.with("coding u = 1 octets ; layer l { service s = 5 { param a : u ; param b : u ; } service r = 6 { param a : u ; param b : u ; } }");
        Due.is("encode(1, 1, 7)", x.encode(1, 1, 7), 1);
        Due.is("SENT", Due.sent(x), "69 7 0");
        Due.is("encode(2, 2, 8)", x.encode(2, 2, 8), 1);
        Due.is("SENT", Due.sent(x), "70 0 8");
        Due.is("encode(1, 2, 9)", x.encode(1, 2, 9), 1);
        Due.is("SENT", Due.sent(x), "69 7 9");
        doc.says("What is SENT is the row of octets of an ANSWER that has these RAWS, as far as parameters are there by them"
                + " (one with which it would have more than 64 octets is not there, and none behind it); groups behind the first one have 0.");
        DescribeText y = with("param n : u ; param a : h when n = 3 ; param b : h times n ; param d : u when a = 0 ; param e : u ;");
        Due.is("encode(1, 3, -2)", y.encode(1, 3, -2), 1);
        Due.is("SENT with neither a nor b", Due.sent(y), "69 0 0");
        Due.is("encode(1, 1, 2)", y.encode(1, 1, 2), 1);
        Due.is("SENT with two GROUPS", Due.sent(y), "69 2 255 254 0 0 0");
        Due.is("encode(1, 1, 3)", y.encode(1, 1, 3), 1);
        Due.is("SENT with all", Due.sent(y), "69 3 0 0 255 254 0 0 0 0 0 0");
        Due.is("encode(1, 2, 1)", y.encode(1, 2, 1), 1);
        Due.is("SENT without d", Due.sent(y), "69 3 0 1 255 254 0 0 0 0 0");
        DescribeText z = with("param n : u ; param a : w times n ; param b : w times n ; param d : w times n ; param e : w times n ; param k : u ;");
        Due.is("encode(1, 1, 8)", z.encode(1, 1, 8), 1);
        Due.is("SENT: e would end at 66, so k is not there either", Due.sent(z), "69 8 " + Due.row(0, 48, 0));
        Due.is("encode(1, 1, 7)", z.encode(1, 1, 7), 1);
        Due.is("SENT with all of it", Due.sent(z), "69 7 " + Due.row(0, 57, 0));
        doc.says("-1 there is no service, parameter.");
        for (int none : new int[] {0, -1, 7, Integer.MAX_VALUE, Integer.MIN_VALUE}) {
            Due.is("encode(" + none + ", 1, 1)", z.encode(none, 1, 1), -1);
            Due.is("encode(1, " + none + ", 999)", z.encode(1, none, 999), -1);
        }
        Due.is("encode(1, 1, 1) with nothing IN HAND", new DescribeText().encode(1, 1, 1), -1);
    }

    private static void out() {
        doc.says("`byte out(int i) throws ArrayIndexOutOfBoundsException`: Octet i of what is SENT. ArrayIndexOutOfBoundsException before and behind it.");
        DescribeText x = with("param a : u ; param b : u ;");
        for (int i : new int[] {-1, 0, 1}) {
            Due.is("out(" + i + ") of nothing throws", Due.outThrows(x, i) ? 1 : 0, 1);
        }
        Due.is("encode(1, 2, 200)", x.encode(1, 2, 200), 1);
        Due.is("out(0)", x.out(0), 69);
        Due.is("out(1)", x.out(1), 0);
        Due.is("out(2)", x.out(2), -56);
        for (int i : new int[] {-1, 3, 4, 64, Integer.MAX_VALUE, Integer.MIN_VALUE}) {
            Due.is("out(" + i + ") throws", Due.outThrows(x, i) ? 1 : 0, 1);
        }
    }

    private static void variant() {
        doc.says("`int variant(int answer)`: The layer of the variant with that Z (the first layer that no variant names, if none has that Z):"
                + " it is IN USE; 0 if there is none: none is.");
        DescribeText x = Due.with("layer a { service s = 1 { } } layer b { service s = 2 { } } layer c { service s = 3 { } } variant a = 7 ; variant c = 8 ; variant a = 9 ;");
        int[][] want = {{7, 1}, {8, 3}, {9, 1}, {0, 2}, {-7, 2}, {Integer.MAX_VALUE, 2}, {Integer.MIN_VALUE, 2}};
        for (int[] one : want) {
            Due.is("variant(" + one[0] + ")", x.variant(one[0]), one[1]);
            Due.is("service(1, 4) then", x.service(1, 4), one[1]);
        }
        DescribeText y = Due.with("layer a { service s = 1 { } } variant a = 7 ;");
        Due.is("service(1, 4)", y.service(1, 4), 1);
        Due.is("variant(8)", y.variant(8), 0);
        Due.is("service(1, 4) then", y.service(1, 4), 0);
        doc.says("-3 nothing is IN HAND.");
        DescribeText none = new DescribeText();
        Due.is("variant(7)", none.variant(7), -3);
        Due.is("a FAULT", Due.read(none, "?"), -1);
        Due.is("variant(7)", none.variant(7), -3);
        Due.is("a text without a layer", none.read(), 0);
        Due.is("variant(7)", none.variant(7), 0);
    }

    private static void runs(String ops, long steps, int want, String sent, int... octets) {
        DescribeText x = Due.with(CODINGS + "layer l { service s = 5 { param a : f ; param b : g when a = 4 ; } } job j { " + ops + " }");
        Due.tell(x, octets);
        Due.is("job(1, " + steps + ") of " + ops, x.job(1, steps), want);
        Due.is("SENT by " + ops, Due.sent(x), sent);
    }

    private static void job() {
        doc.says("`int job(int name, long steps)`: A JOB (name is its number): 1 it came to its end, 0 the steps were spent.");
        DescribeText x = Due.with("job b { put 1 ; send ; } job a { put 2 ; send ; put 3 ; send ; }");
        Due.is("job(1, 2)", x.job(1, 2), 1);
        Due.is("SENT", Due.sent(x), "1");
        Due.is("job(2, 5000)", x.job(2, 5000), 1);
        Due.is("SENT", Due.sent(x), "2 3");
        Due.is("job(2, 3)", x.job(2, 3), 0);
        Due.is("SENT", Due.sent(x), "2");
        Due.is("job(2, 4)", x.job(2, 4), 1);
        doc.says("SENT is empty, then what it sends;");
        Due.is("job(1, 1)", x.job(1, 1), 0);
        Due.is("SENT", Due.sent(x), "");
        Due.is("job(1, 2)", x.job(1, 2), 1);
        Due.is("SENT", Due.sent(x), "1");
        doc.says("on a PILE of numbers, at first empty:");
        runs("drop ;", 9, -3, "");
        DescribeText twice = Due.with("job a { put 1 ; } job b { drop ; }");
        Due.is("job(1, 1)", twice.job(1, 1), 1);
        Due.is("job(2, 1): nothing is left of the other job", twice.job(2, 1), -3);
    }

    private static void jobOps() {
        doc.says("put lays one on it,");
        runs("put 5 ; put - 1 ; put 999999 ; send ; send ; send ;", 9, 1, "63 255 5");
        doc.says("get the VALUE of a parameter in the ANSWER, towards smaller ones (0 if it is not there),");
        runs("get s a ; send ;", 9, 1, "5", 69, 7);
        runs("get s a ; send ;", 9, 1, "252", 69, 1);
        runs("get s a ; send ; get s b ; send ;", 9, 1, "1 200", 69, 4, 200);
        runs("get s a ; send ; get s b ; send ;", 9, 1, "251 0", 69, 0, 200);
        runs("get s a ; send ;", 9, 1, "0", 70, 9);
        runs("get s a ; send ;", 9, 1, "0");
        doc.says("add, sub, mul take two off and lay what comes of them (the lower one first; modulo 2^64),");
        runs("put 9 ; put 50 ; put 8 ; add ; send ; send ;", 9, 1, "58 9");
        runs("put 9 ; put 50 ; put 8 ; sub ; send ; send ;", 9, 1, "42 9");
        runs("put 9 ; put 5 ; put 8 ; mul ; send ; send ;", 9, 1, "40 9");
        String two32 = "put 65536 ; dup ; mul ; ";
        runs(two32 + "dup ; mul ; while { put 1 ; send ; put 0 ; } put 9 ; send ;", 99, 1, "9");
        runs(two32 + "while { put 1 ; send ; put 0 ; } put 9 ; send ;", 99, 1, "1 9");
        doc.says("dup lays the upper one once more, swap changes the upper two,");
        runs("put 1 ; put 2 ; dup ; send ; send ; send ;", 9, 1, "2 2 1");
        runs("put 1 ; put 2 ; put 3 ; swap ; send ; send ; send ;", 9, 1, "2 3 1");
        doc.says("drop and send take one off, send adds its lowest 8 bits to SENT.");
        runs("put 1 ; put 2 ; drop ; send ;", 9, 1, "1");
        runs("put 1 ; put 2 ; send ; send ; drop ;", 9, -3, "2 1");
        runs("put 255 ; send ; put 256 ; send ; put - 1 ; send ; put 1000 ; send ;", 9, 1, "255 0 255 232");
    }

    private static void jobWhile() {
        doc.says("while takes one off: with 0 it goes on behind its }, otherwise with its OPS, and behind these with the while again.");
        runs("put 0 ; while { put 1 ; send ; put 0 ; } put 9 ; send ;", 99, 1, "9");
        runs("put - 1 ; while { put 1 ; send ; put 0 ; } put 9 ; send ;", 99, 1, "1 9");
        runs("put 3 ; dup ; while { dup ; send ; put 1 ; sub ; dup ; } send ;", 99, 1, "3 2 1 0");
        runs("put 2 ; dup ; while { put 2 ; dup ; while { put 7 ; send ; put 1 ; sub ; dup ; } drop ; put 8 ; send ; put 1 ; sub ; dup ; }", 99, 1, "7 7 8 7 7 8");
        runs("put 7 ; put 0 ; while { } send ;", 99, 1, "7");
        doc.says("Each OP (a while each time that it takes one off) is a step.");
        for (int steps = 0; steps <= 8; steps++) {
            // put, while, put, send, put, while, put, send
            runs("put 1 ; while { put 5 ; send ; put 0 ; } put 6 ; send ;", steps, steps == 8 ? 1 : 0, steps < 4 ? "" : steps < 8 ? "5" : "5 6");
        }
        runs("put 1 ; while { put 1 ; }", 5000, 0, "");
        runs("", 0, 1, "");
    }

    private static void jobRefusals() {
        doc.says("-1 there is no such JOB, -2 steps are not 0 .. 5000;");
        DescribeText x = Due.with("coding u = 1 octets ; layer l { service s = 5 { param a : u ; } } job j { put 1 ; send ; }");
        Due.is("encode(1, 1, 9)", x.encode(1, 1, 9), 1);
        for (int none : new int[] {0, -1, 2, Integer.MAX_VALUE, Integer.MIN_VALUE}) {
            Due.is("job(" + none + ", 2)", x.job(none, 2), -1);
            Due.is("job(" + none + ", 5001)", x.job(none, 5001), -1);
        }
        for (long steps : new long[] {-1, 5001, Long.MAX_VALUE, Long.MIN_VALUE, 1L << 32}) {
            Due.is("job(1, " + steps + ")", x.job(1, steps), -2);
        }
        Due.is("SENT stays", Due.sent(x), "69 9");
        Due.is("job(1, 0)", x.job(1, 0), 0);
        Due.is("job(1, 5000)", x.job(1, 5000), 1);
        doc.says("-3 an OP wants more than the PILE has, or lays a 17th,");
        for (String op : new String[] {"add ;", "sub ;", "mul ;", "swap ;"}) {
            runs("put 0 ; " + op, 9, -3, "");
            runs("put 0 ; put 0 ; " + op, 9, 1, "");
        }
        for (String op : new String[] {"dup ;", "drop ;", "send ;", "while { }"}) {
            runs(op, 9, -3, "");
        }
        String full = Due.many("put 0 ; ", 16);
        for (String op : new String[] {"put 0 ;", "get s a ;", "dup ;"}) {
            runs(full + op, 99, -3, "");
            runs(full + "drop ; " + op, 99, 1, "");
        }
        runs(full + "swap ; add ; drop ; while { }", 99, 1, "");
        doc.says("-4 sends a 65th octet: then it ends there (SENT is what this job sent so far).");
        String count = "put # ; dup ; while { put 7 ; send ; put 1 ; sub ; dup ; } put 8 ; send ;";
        runs(count.replace("#", "63"), 5000, 1, Due.row(7, 63, 7) + " 8");
        runs(count.replace("#", "64"), 5000, -4, Due.row(7, 64, 7));
        runs("put 3 ; send ; drop ; put 4 ; send ;", 9, -3, "3");
        runs("put 3 ; send ; " + full + "put 0 ; put 4 ; send ;", 99, -3, "3");
    }

    private static void rings(DescribeText x, int... want) {
        for (int i = 0; i < 8; i++) {
            Due.is("ring(" + i + ")", x.ring(i), i < want.length ? want[i] : 0);
        }
        for (int i : new int[] {-1, Integer.MAX_VALUE, Integer.MIN_VALUE}) {
            Due.is("ring(" + i + ")", x.ring(i), 0);
        }
    }

    private static void ring() {
        doc.says("`int ring(int i)`: Layer i (from 0) of the RING for which the last text was refused: the layer of that NAME's statement,"
                + " then the one that it is OF, and so on;");
        DescribeText x = new DescribeText();
        Due.is("a RING", Due.read(x, "layer x of a { } layer y { } layer a of\nc { } layer b of a { } layer c of b { }"), -2);
        rings(x, 3, 5, 4);
        Due.is("a RING of one", Due.read(x, "layer y { } layer a of a { }"), -1);
        rings(x, 2);
        doc.says("0 if there is none, or it was not refused for a RING.");
        Due.is("a NAME before it is wrong", Due.read(x, "layer x of y { } layer a of a { }"), -1);
        rings(x);
        Due.is("a RING", Due.read(x, "layer a of b { } layer b of a { }"), -1);
        rings(x, 1, 2);
        Due.is("no FAULT", Due.read(x, "layer a of b { } layer b { }"), 0);
        rings(x);
        rings(new DescribeText());
    }

    private static final String FIRST = "coding c = 2 octets scale 1 / 2 plus 3 ; coding d = 1 octets { 1 on ; 0 off ; } layer l { service s = 5 { param a : d ;"
            + " param b : c when a = 1 ; param k : d times a ; } service t = 6 { } }";

    /** How many services have none like them, once a part of the text is changed. */
    private static void unlike(String part, String other, int want) {
        Due.is("the text has " + part, FIRST.contains(part) ? 1 : 0, 1);
        DescribeText x = Due.with(FIRST);
        Due.is("read()", Due.read(x, FIRST.replace(part, other)) >= 0 ? 1 : 0, 1);
        Due.is("compare(1) with " + other + " for " + part, x.compare(1), want);
    }

    private static void compare() {
        doc.says("`int compare(int edition)`: How many services IN HAND have none like them in another EDITION:");
        unlike("service t = 6 { }", "service t = 6 { }", 0);
        unlike("service t = 6 { }", "", 0);
        unlike("service t = 6 { }", "service t = 6 { } service v = 6 { } service w = 6 { }", 2);
        unlike("layer l {", "layer l { service v = 6 { }", 1);
        doc.says("same NAME, Z, NAME of the layer,");
        unlike("service s", "service r", 1);
        unlike("s = 5", "s = 7", 1);
        unlike("layer l", "layer m", 2);
        unlike("layer l", "layer k { } layer l of k", 0);
        doc.says("and the same parameters in order (NAME, when or times, NAME of the earlier one, Z,");
        unlike("param k : d times a ;", "", 1);
        unlike("param k : d times a ;", "param k : d times a ; param m : d ;", 1);
        unlike("param k", "param m", 1);
        unlike("when a = 1", "times a", 1);
        unlike("when a = 1", "", 1);
        unlike("times a", "when a = 0", 1);
        unlike("times a", "times b", 1);
        unlike("when a = 1", "when a = 2", 1);
        unlike("param a : d ; param b : c when a = 1 ; param k : d times a ;", "param a : d ; param k : d times a ; param b : c when a = 1 ;", 1);
    }

    private static void compareCodings() {
        doc.says("and codings alike: octets, FORM with its numbers, ROWS in order).");
        unlike("coding c = 2", "coding c = 3", 1);
        unlike("scale 1 / 2 plus 3", "signed", 1);
        unlike("scale 1 / 2 plus 3", "", 1);
        unlike("scale 1", "scale - 1", 1);
        unlike("scale 1 / 2", "scale 2 / 4", 1);
        unlike("plus 3", "plus 4", 1);
        unlike("1 on ; 0 off ;", "0 off ; 1 on ;", 1);
        unlike("1 on ;", "", 1);
        unlike("1 on", "1 up", 1);
        unlike("1 on", "2 on", 1);
        // How a coding is called, and where it stands, makes no difference.
        DescribeText x = Due.with(FIRST);
        String other = "coding x = 4 octets ; " + FIRST.replace("coding c", "coding e").replace(": c", ": e");
        Due.is("read()", Due.read(x, other), 2);
        Due.is("compare(1) with other NAMES of codings", x.compare(1), 0);
        doc.says("-1 there is no such EDITION, or it is not kept.");
        for (int none : new int[] {0, -1, 3, 4, 5, Integer.MAX_VALUE, Integer.MIN_VALUE}) {
            Due.is("compare(" + none + ") of two", x.compare(none), -1);
        }
        for (int i = 3; i <= 5; i++) {
            Due.is("read()", x.read(), 0);
        }
        Due.is("compare(4)", x.compare(4), 0);
        Due.is("compare(5): it is not kept", x.compare(5), -1);
        Due.is("compare(1) with nothing IN HAND", new DescribeText().compare(1), -1);
    }

    private static void code() {
        doc.says("`int code(int number)`: The number of the NAME of a code; 0 without one.");
        DescribeText x = Due.with("layer l { } code 0 = a ; code 999999 = l ; code 7 = a ; code 8 = b ; variant l = 9 ;");
        int[][] want = {{0, 2}, {999999, 1}, {7, 2}, {8, 3}, {9, 0}, {1, 0}, {-7, 0}, {1000000, 0}, {Integer.MAX_VALUE, 0}, {Integer.MIN_VALUE, 0}};
        for (int[] one : want) {
            Due.is("code(" + one[0] + ")", x.code(one[0]), one[1]);
        }
        Due.is("code(0) with nothing IN HAND", new DescribeText().code(0), 0);
    }

    private static void notPromised() {
        doc.leavesFree("How the state is held inside the object is free, as are the speed of each call, the text of toString and the behaviour of equals"
                + " and hashCode.");
        doc.leavesFree("Use of one object from several threads at once is not promised to be safe.");
        doc.leavesFree("Nothing is promised beyond the answers and state changes described above, and nothing about an object after its 512th call.");
    }
}
