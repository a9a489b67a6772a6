/** The edges of compare (promise 13): what makes services alike, and how many are not. */
public final class CompareEdgesTest {
    private static final String FIRST = "coding c = 2 octets ; coding s = 1 octets signed ; coding f = 2 octets scale 1 / 2 plus 3 ;"
            + " coding t = 1 octets { 1 on ; 0 off ; } layer l { service x = 5 { param a : c ; param b : s when a = 1 ; param d : f times b ; param e : t ; } }";

    public static void main(String[] args) {
        likeOnes();
        services();
        parameters();
        whenAndTimes();
        octetsAndForms();
        rows();
        howMany();
        wholeText();
        noSuchEdition();
        Due.done();
    }

    /** Both ways: FIRST with a change IN HAND against FIRST, and FIRST against the one with the change. */
    private static void change(String from, String to, int want) {
        String text = FIRST.replace(from, to);
        Due.is("[" + from + "] stands in the text", FIRST.contains(from) ? 1 : 0, 1);
        compare(FIRST, text, want);
        compare(text, FIRST, want);
    }

    private static void compare(String first, String second, int want) {
        DescribeText x = Due.with(first);
        if (Due.read(x, second) < 0) {
            Due.is("read() of [" + second + "]", -1, 0);
        }
        Due.is("compare(1) of [" + second + "] with [" + first + "]", x.compare(1), want);
        Due.is("compare(2) of [" + second + "] with itself", x.compare(2), 0);
    }

    private static void likeOnes() {
        Due.sentence("have none like them in another EDITION: same NAME, Z, NAME of the layer, and the same parameters in order");
        change("x", "x", 0);
        change(" ; ", ";\n", 0);
        change("x = 5", "x = 005", 0);
        change("1 / 2 plus 3", "01 / 002 plus 0003", 0);
        change("1 on", "01 on", 0);
        change("a = 1", "a = 01", 0);
        change("= 2 octets", "= 02 octets", 0);
        // Codings have other NAMES and numbers, and layers other numbers.
        compare(FIRST, FIRST.replace("coding c", "coding cc").replace(": c ", ": cc "), 0);
        compare(FIRST, "coding zz = 4 octets ; layer zz { } " + FIRST, 0);
        compare(FIRST, "code 1 = zz ; " + FIRST, 0);
        compare(FIRST, FIRST.replace("layer l", "layer l of zz") + " layer zz { }", 0);
        compare(FIRST, FIRST + " variant l = 1 ; job j { get x a ; }", 0);
    }

    private static void services() {
        Due.sentence("same NAME, Z, NAME of the layer");
        change("service x", "service xx", 1);
        change("service x", "service l", 1);
        change("x = 5", "x = 4", 1);
        change("x = 5", "x = 6", 1);
        change("layer l", "layer ll", 1);
        change("layer l", "layer x", 1);
        compare("layer l { service s = 1 { } } layer m { service t = 1 { } }", "layer l { service t = 1 { } } layer m { service s = 1 { } }", 2);
        compare("layer l { service s = 1 { } service t = 2 { } }", "layer l { service s = 2 { } service t = 1 { } }", 2);
        compare("layer l { service s = 1 { } service t = 2 { } }", "layer l { service t = 2 { } service s = 1 { } }", 0);
    }

    private static void parameters() {
        Due.sentence("the same parameters in order (NAME");
        change("param e : t ;", "", 1);
        change("param e : t ;", "param e : t ; param g : t ;", 1);
        change("param e", "param ee", 1);
        change("param a : c ; param b : s when a = 1 ; param d : f times b ; param e : t ;", "", 1);
        compare("coding c = 1 octets ; layer l { service s = 1 { param a : c ; param b : c ; } }",
                "coding c = 1 octets ; layer l { service s = 1 { param b : c ; param a : c ; } }", 1);
        compare("coding c = 1 octets ; layer l { service s = 1 { param a : c ; } }", "coding c = 1 octets ; layer l { service s = 1 { param b : c ; } }", 1);
        String eight = "coding c = 1 octets ; layer l { service s = 1 { " + Due.many("param p# : c ; ", 8) + "} }";
        compare(eight, eight, 0);
        compare(eight, eight.replace("p7", "p8"), 1);
        compare(eight, eight.replace("p0", "p8"), 1);
    }

    private static void whenAndTimes() {
        Due.sentence("when or times, NAME of the earlier one, Z");
        change("when a = 1", "when a = 0", 1);
        change("when a = 1", "when a = 2", 1);
        change("when a = 1", "times a", 1);
        change("when a = 1", "", 1);
        change("times b", "times a", 1);
        change("times b", "when b = 0", 1);
        change("times b", "", 1);
        String two = "coding c = 1 octets ; layer l { service s = 1 { param a : c ; param b : c ; param d : c when a = 0 ; } }";
        compare(two, two, 0);
        compare(two, two.replace("when a = 0", "when b = 0"), 1);
        compare(two, two.replace("when a = 0", "when a = 1"), 1);
        compare(two, two.replace("when a = 0", "times a"), 1);
        compare(two, two.replace("when a = 0", ""), 1);
    }

    private static void octetsAndForms() {
        Due.sentence("codings alike: octets, FORM with its numbers");
        change("coding c = 2", "coding c = 1", 1);
        change("coding c = 2", "coding c = 3", 1);
        change("coding t = 1", "coding t = 2", 1);
        change("octets signed", "octets", 1);
        change("coding c = 2 octets", "coding c = 2 octets signed", 1);
        change("coding c = 2 octets", "coding c = 2 octets scale 1 / 1 plus 0", 1);
        change("octets signed", "octets scale 1 / 1 plus 0", 1);
        change("scale 1 / 2 plus 3", "", 1);
        change("scale 1", "scale - 1", 1);
        change("scale 1", "scale 2", 1);
        change("scale 1", "scale 0", 1);
        change("/ 2", "/ 1", 1);
        change("/ 2", "/ 3", 1);
        change("plus 3", "plus - 3", 1);
        change("plus 3", "plus 2", 1);
        change("plus 3", "plus 4", 1);
        // The same VALUES by other numbers are not alike.
        change("scale 1 / 2", "scale 2 / 4", 1);
    }

    private static void rows() {
        Due.sentence("codings alike: .. ROWS in order");
        change("1 on ; 0 off", "0 off ; 1 on", 1);
        change("1 on ; 0 off", "1 off ; 0 on", 1);
        change("1 on ; 0 off ;", "1 on ;", 1);
        change("1 on ; 0 off ;", "0 off ;", 1);
        change("1 on ; 0 off ;", "1 on ; 0 off ; 2 on ;", 1);
        change("1 on", "2 on", 1);
        change("0 off", "2 off", 1);
        change("1 on", "1 yes", 1);
        change("0 off", "0 no", 1);
        change("1 on ; 0 off ;", "", 1);
        change("{ 1 on ; 0 off ; }", ";", 1);
        String eight = "coding c = 1 octets { " + Due.many("# r# ; ", 8) + "} layer l { service s = 1 { param p : c ; } }";
        compare(eight, eight, 0);
        compare(eight, eight.replace("7 r7", "8 r7"), 1);
        compare(eight, eight.replace("7 r7", "7 r8"), 1);
    }

    private static void howMany() {
        Due.sentence("How many services IN HAND have none like them in another EDITION");
        for (int first = 0; first <= 16; first += 4) {
            for (int second = 0; second <= 16; second++) {
                compare("layer l {" + Due.many("service s# = 1 { }", first) + "}", "layer l {" + Due.many("service s# = 1 { }", second) + "}",
                        Math.max(0, second - first));
            }
        }
        // One there is like two of different layers only by its own layer's NAME.
        compare("layer l { service s = 1 { } }", "layer l { service s = 1 { } } layer m { service s = 1 { } }", 1);
        compare("layer l { service s = 1 { } } layer m { service s = 1 { } }", "layer l { service s = 1 { } }", 0);
        compare("", "layer l { service s = 1 { } }", 1);
        compare("layer l { service s = 1 { } }", "", 0);
    }

    private static void wholeText() {
        Due.sentence("How many services IN HAND");
        DescribeText x = Due.with(FIRST);
        Due.is("another text", Due.read(x, FIRST.replace("x = 5", "x = 6")), 1);
        Due.is("compare(1)", x.compare(1), 1);
        Due.is("a text with a FAULT", Due.read(x, "}"), -1);
        Due.is("compare(1) stays", x.compare(1), 1);
        Due.is("compare(2) stays", x.compare(2), 0);
        Due.is("compare(3)", x.compare(3), -1);
        Due.is("compare changes nothing", x.compare(1), 1);
    }

    private static void noSuchEdition() {
        Due.sentence("-1 there is no such EDITION, or it is not kept");
        DescribeText x = new DescribeText();
        for (int edition = -1; edition <= 5; edition++) {
            Due.is("compare(" + edition + ") of a new object", x.compare(edition), -1);
        }
        for (int count = 1; count <= 6; count++) {
            Due.is("read()", x.read(), 0);
            for (int edition : new int[] {Integer.MIN_VALUE, -1, 0, 1, 2, 3, 4, 5, 6, 7, Integer.MAX_VALUE}) {
                boolean kept = edition >= 1 && edition <= 4 && edition <= count;
                Due.is("compare(" + edition + ") with " + count, x.compare(edition), kept ? 0 : -1);
            }
        }
    }
}
