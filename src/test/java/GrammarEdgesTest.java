/** The edges of the grammar: how many of each there may be, and between which bounds NUMBERS lie. */
public final class GrammarEdgesTest {
    private static final String CODING = "coding c = 1 octets ; ";

    public static void main(String[] args) {
        noneOrMore();
        statements();
        forms();
        limits();
        servicesOfAllLayers();
        limitsOfEachOne();
        opsWithThoseWithin();
        whilesInWhiles();
        fullText();
        bounds();
        Due.done();
    }

    private static void noneOrMore() {
        Due.sentence("A TEXT is STATEMENTS, none or more");
        Due.reads("", 0);
        Due.reads(" ", 0);
        Due.sentence("SERVICES, none or more");
        Due.reads("layer l { }", 0);
        Due.reads("layer l of m { } layer m { }", 0);
        Due.reads("layer l { service s = 1 { } }", 1);
        Due.sentence("PARAMETERS, none or more");
        Due.reads("layer l { service s = 1 { } service t = 1 { } }", 2);
        Due.reads(CODING + "layer l { service s = 1 { param p : c ; } }", 1);
        Due.sentence("OPS, none or more");
        Due.reads("job j { }", 0);
        Due.reads("job j { add ; }", 0);
        Due.reads("job j { while { } }", 0);
        Due.reads("job j { while { add ; } }", 0);
        Due.sentence("a TABLE; ROWS Z N ; 8 at most");
        Due.reads("coding c = 1 octets { }", 0);
        Due.reads("coding c = 1 octets { 1 x ; }", 0);
    }

    private static void statements() {
        Due.sentence("A TEXT is STATEMENTS");
        String[] all = {"coding # = 1 octets ; ", "coding # = 1 octets { 1 x ; } ", "layer # { } ", "layer # of l { } ",
            "code 1# = n ; ", "variant l = 1# ; ", "job # { } "};
        for (String first : all) {
            for (String second : all) {
                Due.reads("layer l { } " + first.replace("#", "a").replace("1a", "1") + second.replace("#", "b").replace("1b", "2"), 0);
            }
        }
        for (String none : new String[] {"service s = 1 { }", "param p : c ;", "add ;", "while { }", "1 x ;", "x", "1", "{", "{ }", ";", "=", "-",
            "/", ":", "}", "octets", "signed", "scale", "plus", "of", "when", "times", "put 1 ;", "get s p ;"}) {
            Due.reads("layer l { }\n" + none, -2);
        }
    }

    private static void forms() {
        Due.sentence("FORM is nothing, signed, or scale V / Z plus V");
        Due.reads("coding a = 1 octets ; coding b = 1 octets signed ; coding c = 1 octets scale 1 / 1 plus 1 ;", 0);
        Due.reads("coding a = 1 octets signed\nsigned ;", -2);
        Due.reads("coding a = 1 octets signed\nscale 1 / 1 plus 1 ;", -2);
        Due.reads("coding a = 1 octets scale 1 / 1 plus 1\nsigned ;", -2);
        Due.reads("coding a = 1 octets scale 1 / 1\n;", -2);
        Due.reads("coding a = 1 octets scale 1\nplus 1 ;", -2);
        Due.reads("coding a = 1 octets\nplus 1 ;", -2);
        Due.reads("coding a = 1 octets signed\n{ }", -2);
        Due.reads("coding a = 1 octets { }\n;", -2);
        Due.reads("coding a = 1 octets { 1 x ;\n; }", -2);
        Due.sentence("V is Z or - Z");
        Due.reads("coding a = 1 octets scale - 1 / 1 plus - 1 ;", 0);
        Due.reads("coding a = 1 octets scale -\n- 1 / 1 plus 1 ;", -2);
        Due.reads("coding a = 1 octets scale 1 /\n- 1 plus 1 ;", -2);
        Due.reads("coding a =\n- 1 octets ;", -2);
        Due.reads("coding a = 1 octets {\n- 1 x ; }", -2);
        Due.reads("code\n- 1 = n ;", -2);
        Due.reads("layer l { } variant l =\n- 1 ;", -2);
        Due.reads("layer l { service s =\n- 1 { } }", -2);
        Due.reads(CODING + "layer l { service s = 1 { param p : c ; param q : c when p =\n- 1 ; } }", -2);
        Due.reads("job j { put - 1 ; }", 0);
        Due.reads("job j { put -\n- 1 ; }", -2);
    }

    /** Up to most of a part there is no FAULT; the next one's first token, on a line of its own, is it. */
    private static void limit(String before, String part, int most, String after) {
        for (int count = 0; count <= most + 2; count++) {
            String text = before + Due.many("\n" + part, count) + after;
            int answer = Due.read(new DescribeText(), text);
            Due.is("read() with " + count + " of " + part, Math.min(0, answer), count <= most ? 0 : -2 - 2 * most);
        }
    }

    private static void limits() {
        Due.sentence("There are at most 12 codings");
        limit("", "coding\nc# = 1 octets ;", 12, "");
        limit("", "coding\nc# = 1 octets { }", 12, "");
        Due.sentence("There are at most .. 6 layers");
        limit("", "layer\nl# { }", 6, "");
        limit("layer b { }", "layer\nl# of b { }", 5, "");
        Due.sentence("There are at most .. 16 services");
        limit("layer l {", "service\ns# = # { }", 16, "}");
        Due.sentence("There are at most .. 12 codes");
        limit("", "code\n# = n ;", 12, "");
        Due.sentence("There are at most .. 6 variants");
        limit("layer l { }", "variant\nl = # ;", 6, "");
        Due.sentence("There are at most .. 4 jobs");
        limit("", "job\nj# { }", 4, "");
    }

    private static void servicesOfAllLayers() {
        Due.sentence("There are at most .. 16 services");
        for (int first = 0; first <= 16; first++) {
            String two = "layer l {" + Due.many("service s# = 1 { }", first) + "} layer m {" + Due.many("service s# = 1 { }", 16 - first);
            Due.reads(two + "}", 16);
            Due.reads(two + "\nservice\nx = 1 { } }", -2);
            Due.reads(two + "} layer n {\nservice\nx = 1 { } }", -2);
            Due.reads(two + "} layer n {\n}", 16);
        }
    }

    private static void limitsOfEachOne() {
        Due.sentence("ROWS Z N ; 8 at most");
        limit("coding c = 1 octets {", "#\nx ;", 8, "}");
        limit("coding b = 1 octets { " + Due.many("# x ;", 8) + "} coding c = 1 octets {", "#\nx ;", 8, "}");
        Due.sentence("PARAMETERS, none or more, 8 at most");
        limit(CODING + "layer l { service s = 1 {", "param\np# : c ;", 8, "} }");
        limit(CODING + "layer l { service r = 1 { " + Due.many("param p# : c ;", 8) + "} service s = 1 {", "param\np# : c ;", 8, "} }");
        Due.sentence("4 jobs with 40 OPS each");
        for (String op : new String[] {"add\n;", "sub\n;", "mul\n;", "dup\n;", "swap\n;", "drop\n;", "send\n;", "put\n1 ;", "get\ns p ;", "while\n{ }"}) {
            String base = CODING + "layer l { service s = 1 { param p : c ; } } job i { " + Due.many("add ;", 40) + "} job j {";
            limit(base, op, 40, "}");
        }
    }

    private static void opsWithThoseWithin() {
        Due.sentence("40 OPS each (with those within)");
        limit("job j { while {", "add\n;", 39, "} }");
        limit("job j { while { while {", "add\n;", 38, "} } }");
        limit("job j { while { while { while {", "add\n;", 37, "} } } }");
        limit("job j { while { add ; } while { add ; add ; }", "add\n;", 35, "}");
        limit("job j { while { while { } } while { while { while { } } } drop ;", "while\n{ }", 34, "}");
        limit("job j { while { while { while { drop ; } } }", "while\n{ while { while { } } }", 12, "}");
        limit("job j { while { } while { drop ; } while { while { add ; } }", "while\n{ add ; }", 17, "}");
    }

    private static void whilesInWhiles() {
        Due.sentence("one while in another one in another one");
        Due.reads("job j { while { } }", 0);
        Due.reads("job j { while { while { } } }", 0);
        Due.reads("job j { while { while { while { } } } }", 0);
        Due.reads("job j { while { while { while {\nwhile\n{ } } } } }", -2);
        Due.reads("job j { while { while { while { add ;\nwhile\n{ } } } } }", -2);
        Due.reads("job j { while { while { while { } while { } while { } } } }", 0);
        Due.reads("job j { while { while { while { } while {\nwhile\n{ } } } } }", -2);
        Due.reads("job j { while { while { while { } } while { while { } } } while { while { while { } } } }", 0);
        Due.reads("job j { while { while { while { } } } while { while { while {\nwhile\n{ } } } } }", -2);
        Due.reads("job j { while { while { while { } } } } job k { while { while { while {\nwhile\n{ } } } } }", -2);
    }

    /** The most of everything at once: one limit does not count for another. */
    private static void fullText() {
        Due.sentence("There are at most 12 codings, 6 layers, 16 services, 12 codes, 6 variants, 4 jobs with 40 OPS each");
        String full = Due.many("coding c#=1 octets;", 11) + "coding t=1 octets{" + Due.many("# x;", 8) + "}"
                + Due.many("layer l#{}", 5) + "layer l{service r=1{" + Due.many("param p#:t;", 8) + "}" + Due.many("service s#=1{}", 15) + "}"
                + Due.many("code #=n;", 12) + Due.many("variant l=#;", 6) + Due.many("job j#{" + Due.many("add;", 40) + "}", 4);
        Due.is("the full text has room", full.length() <= 2000 ? 1 : 0, 1);
        Due.reads(full, 16);
        Due.reads(full + "\ncoding c = 1 octets ;", -2);
        Due.reads(full + "\nlayer a { }", -2);
        Due.reads(full + "\ncode 99 = n ;", -2);
        Due.reads(full + "\nvariant l = 99 ;", -2);
        Due.reads(full + "\njob j { }", -2);
    }

    /** A NUMBER on the second line between what stands before and behind it. */
    private static void bound(String before, String behind, int low, int high) {
        int[] some = {0, 1, 2, low - 1, low, low + 1, high - 1, high, high + 1, 191, 192, 255, 256, 99999, 100000, 999999};
        for (int z : some) {
            if (z >= 0) {
                String text = before + "\n" + z + "\n" + behind;
                int answer = Due.read(new DescribeText(), text);
                Due.is("read() of [" + text + "]", Math.min(0, answer), z >= low && z <= high ? 0 : -2);
            }
        }
    }

    private static void bounds() {
        Due.sentence("coding N = Z octets FORM ; (Z 1 to 4");
        bound("coding c =", "octets ;", 1, 4);
        bound("coding c =", "octets signed ;", 1, 4);
        bound("coding c =", "octets scale 1 / 1 plus 1 ;", 1, 4);
        Due.sentence("coding N = Z octets { ROWS }");
        bound("coding c =", "octets { }", 1, 4);
        bound("coding c = 1 octets {", "x ; }", 0, 999999);
        Due.sentence("scale V / Z plus V with Z above 0");
        bound("coding c = 1 octets scale 1 /", "plus 1 ;", 1, 999999);
        bound("coding c = 1 octets scale", "/ 1 plus 1 ;", 0, 999999);
        bound("coding c = 1 octets scale -", "/ 1 plus 1 ;", 0, 999999);
        bound("coding c = 1 octets scale 1 / 1 plus", ";", 0, 999999);
        bound("coding c = 1 octets scale 1 / 1 plus -", ";", 0, 999999);
        Due.sentence("service N = Z { PARAMETERS } (Z 0 to 191)");
        bound("layer l { service s =", "{ } }", 0, 191);
        Due.sentence("Z a NUMBER");
        bound("code", "= n ;", 0, 999999);
        bound("layer l { } variant l =", ";", 0, 999999);
        bound(CODING + "layer l { service s = 1 { param p : c ; param q : c when p =", "; } }", 0, 999999);
        bound("job j { put", "; }", 0, 999999);
        bound("job j { put -", "; }", 0, 999999);
    }
}
