/** The edges of THE FAULT: which one is the first, and where it lies. */
public final class FaultEdgesTest {
    private static final String CODING = "coding c = 1 octets ; ";
    /** Faults of form; the fault is on the second line of each. */
    private static final String[] FORM = {"layer\n5\n", "layer l\nof of\n", "job j { put\n;\n", "coding c =\n5\noctets ;", "coding c =\n0\noctets ;",
        "layer l { service s =\n192\n{ } }", "coding c = 1 octets scale 1 /\n0\nplus 1 ;", "code\n\u0001\n", "code\nA\n", "code 1 =\nabcdefghijklm\n;",
        "code\n1234567\n= n ;", "code\n1a\n= n ;", "job j { while { while { while {\nwhile\n{ } } } } }", "job j { } \n}\n"};
    /** Wrong NAMES and NUMBERS; the wrong one stands on the second line of each, # makes its other NAMES its own. */
    private static final String[] WRONG = {
        "coding a# = 1 octets ; coding\na#\n= 1 octets ;", "layer a# { } layer\na#\n{ }", "job a# { } job\na#\n{ }",
        "layer b# { service s = 1 { } service\ns\n= 1 { } }",
        "coding d# = 1 octets ; layer e# { service s = 1 { param p : d# ; param\np\n: d# ; } }",
        "coding f# = 1 octets { 1 x ;\n1\ny ; }", "code #1 = x ; code\n#1\n= x ;", "layer g# { } variant g# = # ; variant g# =\n#\n;",
        "layer h# { service s = 1 { param p :\nnone\n; } }", "layer i# of\nnone\n{ }", "variant\nnone\n= 1# ;",
        "coding j# = 1 octets ; layer k# { service s = 1 { param p : j# when\np\n= 1 ; } }",
        "coding j# = 1 octets ; layer k# { service s = 1 { param p : j# times\np\n; } }",
        "job m# { get\nnone\np ; }", "layer n# { service t# = 1 { } } job o# { get t#\nnone\n; }",
        "layer q# of\nq#\n{ }", "layer r# of\nu#\n{ } layer u# of r# { }"};
    private static final int FIRST_RING = 15;

    public static void main(String[] args) {
        everyToken();
        outOfBounds();
        octetsOfNoToken();
        tooLong();
        textsEnd();
        firstOfForm();
        formBeforeWrong();
        firstOfWrong();
        givenNames();
        numbersOfEarlierOnes();
        namesThatMeanNothing();
        earlierParameters();
        layersInRings();
        Due.done();
    }

    /** A token that no text has in its place, for each token of a text, each on its own line. */
    private static void everyToken() {
        Due.sentence("THE FAULT is the LINE of the first token with which no text goes on");
        for (String text : new String[] {"coding a = 1 octets ;", "coding a = 1 octets signed ;", "coding a = 1 octets scale - 1 / 2 plus - 3 ;",
            "coding a = 1 octets { 5 x ; 6 y ; }", "code 1 = x ;", "variant x = 1 ;", "job x { put 5 ; add ; get a b ; }",
            "job x { while { while { drop ; } dup ; } swap ; }", "layer x { }", "layer x of y { }",
            "layer x { service y = 5 { param z : u when v = 5 ; } service z = 6 { } }", "layer x { service y = 5 { param z : u times v ; } }"}) {
            String[] tokens = text.split(" ");
            for (int at = 0; at < tokens.length; at++) {
                change(tokens, at, "octets".equals(tokens[at]) ? "signed" : "octets");
                change(tokens, at, ":".equals(tokens[at]) ? "/" : ":");
                change(tokens, at, "\u007f");
            }
        }
    }

    private static void change(String[] tokens, int at, String other) {
        String[] changed = tokens.clone();
        changed[at] = other;
        Due.reads(Due.lines(changed), -at - 1);
    }

    private static void outOfBounds() {
        Due.sentence("also of one that .. is a NUMBER out of its bounds");
        Due.reads("coding\nc\n=\n0\noctets\n;", -4);
        Due.reads("coding\nc\n=\n5\noctets\n;", -4);
        Due.reads("coding\nc\n=\n4\noctets\n;", 0);
        Due.reads("layer l { service\ns\n=\n192\n{ } }", -4);
        Due.reads("layer l { service\ns\n=\n191\n{ } }", 1);
        Due.reads("coding c = 1 octets scale\n1\n/\n0\nplus 1 ;", -4);
        Due.reads("coding c = 1 octets scale\n1\n/\n1\nplus 1 ;", 0);
    }

    /** Wherever a token may begin, between all tokens of a text. */
    private static void octetsOfNoToken() {
        Due.sentence("THE FAULT is the LINE .. of an octet with which no token begins");
        String[] tokens = "coding a = 1 octets ; layer l { service s = 5 { param p : a ; } } code 1 = x ;".split(" ");
        for (int at = 0; at <= tokens.length; at++) {
            for (char octet : new char[] {1, 8, 11, 12, 14, 31, '!', '"', '+', ',', '.', '<', '>', '@', 'A', 'Z', '[', '_', '`', '|', '~', 127, 128, 255}) {
                StringBuilder text = new StringBuilder();
                for (int i = 0; i < tokens.length; i++) {
                    text.append(i == at ? "" + octet : "").append(i == at ? "\n" : "").append(tokens[i]).append('\n');
                }
                Due.reads(text.append(at == tokens.length ? "" + octet : "").toString(), -at - 1);
            }
        }
    }

    private static void tooLong() {
        Due.sentence("THE FAULT is the LINE .. of the first letter or digit that a NAME or NUMBER is too long by");
        Due.reads("code\n1\n=\nabcdefghijkl\n;", 0);
        Due.reads("code\n1\n=\nabcdefghijklm\n;", -4);
        Due.reads("code\n1\n=\nabcdefghijkl9\n;", -4);
        Due.reads("code\n123456\n=\nn\n;", 0);
        Due.reads("code\n1234567\n=\nn\n;", -2);
        Due.reads("code\n0000001\n=\nn\n;", -2);
        // It is a fault too where a shorter one would be none.
        Due.reads("\nlayerlayerlayer", -2);
        Due.reads("code 1 = n ;\n\nabcdefghijklm", -3);
        Due.reads("code 1 = n ;\n\n1234567", -3);
    }

    private static void textsEnd() {
        Due.sentence("THE FAULT is the LINE .. of the text's end");
        String text = "coding a = 1 octets scale 1 / 2 plus 3 ; coding b = 1 octets { 5 x ; } layer l { service s = 5 { param p : a ; param q : a when p = 5 ; } }"
                + " job j { put 5 ; get s p ; while { add ; } } code 1 = x ; variant l = 1 ;";
        String[] tokens = text.split(" ");
        StringBuilder part = new StringBuilder();
        int line = 1;
        int open = 0;
        for (String token : tokens) {
            part.append(token).append('\n');
            line++;
            open += token.equals("{") ? 1 : token.equals("}") ? -1 : 0;
            boolean ends = open == 0 && (token.equals("}") || token.equals(";"));
            int answer = Due.read(new DescribeText(), part.toString());
            Due.is("read() of [" + part + "]", Math.min(0, answer), ends ? 0 : -line);
            int cut = Due.read(new DescribeText(), part.substring(0, part.length() - 1));
            Due.is("read() of [" + part + "] without the last 10", Math.min(0, cut), ends ? 0 : -line + 1);
        }
    }

    private static void firstOfForm() {
        Due.sentence("THE FAULT is the LINE of the first token ..");
        for (String first : FORM) {
            Due.reads(first, -2);
            Due.reads("\n\n" + first, -4);
            Due.reads("layer a { }\n" + first, -3);
            for (String second : FORM) {
                Due.reads(first + "\n" + second, -2);
            }
        }
        Due.sentence("also of one that begins one too many");
        for (String second : FORM) {
            Due.reads(Due.many("job j# { }", 4) + "\njob\n" + second, -2);
        }
    }

    private static void formBeforeWrong() {
        Due.sentence("If there is none of these, it is the LINE of the first NAME or NUMBER in the text that is wrong");
        for (String wrong : WRONG) {
            for (String form : FORM) {
                DescribeText x = new DescribeText();
                String text = wrong.replace("#", "0") + "\n" + form;
                Due.is("read() of [" + text + "]", Due.read(x, text), -5);
                Due.is("ring(0) of [" + text + "]", x.ring(0), 0);
            }
            Due.reads(wrong.replace("#", "0") + "\n\nlayer", -5);
        }
    }

    private static void firstOfWrong() {
        Due.sentence("it is the LINE of the first NAME or NUMBER in the text that is wrong");
        for (int first = 0; first < WRONG.length; first++) {
            String alone = WRONG[first].replace("#", "0");
            wrong(alone, 2, first >= FIRST_RING);
            wrong("\n\n" + alone, 4, first >= FIRST_RING);
            for (String second : WRONG) {
                wrong(alone + "\n" + second.replace("#", "1"), 2, first >= FIRST_RING);
            }
        }
    }

    private static void wrong(String text, int line, boolean isRing) {
        DescribeText x = new DescribeText();
        Due.is("read() of [" + text + "]", Due.read(x, text), -line);
        Due.is("ring(0) of [" + text + "]", x.ring(0), isRing ? 1 : 0);
    }

    private static void givenNames() {
        Due.sentence("a NAME that is given .. and was given before to one of the same kind (codings, layers, jobs; services of one layer, parameters of one service)");
        Due.reads("coding a = 1 octets ; coding b = 1 octets ; coding\na\n= 2 octets { }", -2);
        Due.reads("coding a = 1 octets { } coding\na\n= 1 octets { }", -2);
        Due.reads("layer a { } layer b { } layer\na\nof b { }", -2);
        Due.reads("job a { } job b { } job\na\n{ }", -2);
        Due.reads("layer l { service a = 1 { } service b = 2 { } service\na\n= 3 { } }", -2);
        Due.reads(CODING + "layer l { service s = 1 { param a : c ; param b : c ; param\na\n: c ; } }", -2);
        Due.reads("layer l { service a = 1 { } } layer m { service a = 1 { } }", 2);
        Due.reads("layer l { service a = 1 { } } layer m of l { service a = 1 { } }", 2);
        Due.reads(CODING + "layer l { service s = 1 { param a : c ; } service t = 1 { param a : c ; } }", 2);
        Due.reads(CODING + "layer l { service s = 1 { param a : c ; } } layer m { service s = 1 { param a : c ; } }", 2);
        String[] kinds = {"coding a = 1 octets ; ", "layer a { } ", "job a { } ", "code 1 = a ; ", "layer l { service a = 1 { } } ",
            CODING + "layer m { service s = 1 { param a : c ; } } ", "coding d = 1 octets { 1 a ; } "};
        for (int i = 0; i < kinds.length; i++) {
            for (int k = 0; k < kinds.length; k++) {
                if (i != k) {
                    int services = (i == 4 || i == 5 ? 1 : 0) + (k == 4 || k == 5 ? 1 : 0);
                    Due.reads(kinds[i] + kinds[k], services);
                }
            }
        }
        Due.sentence("a NAME that is given (the first N; a ROW's is not)");
        Due.reads("coding a = 1 octets { 1 a ; 2 a ; 3 b ; } coding b = 1 octets { 1 b ; 2 a ; }", 0);
        Due.reads("code 1 = a ; code 2 = a ; layer a { } variant a = 1 ; variant a = 2 ;", 0);
    }

    private static void numbersOfEarlierOnes() {
        Due.sentence("a ROW's, code's or variant's Z that an earlier one has (ROWS: of the same TABLE)");
        Due.reads("coding a = 1 octets { 1 x ; 2 x ;\n1\nx ; }", -2);
        Due.reads("coding a = 1 octets { 1 x ; 2 x ;\n000002\nx ; }", -2);
        Due.reads("coding a = 1 octets { 1 x ; 2 x ; 3 x ; 10 x ; 0 x ; }", 0);
        Due.reads("coding a = 1 octets { 1 x ; } coding b = 1 octets { 1 x ; }", 0);
        Due.reads("coding a = 1 octets { " + Due.many("# x ; ", 7) + "\n0\nx ; }", -2);
        Due.reads("coding a = 1 octets { " + Due.many("# x ; ", 7) + "\n6\nx ; }", -2);
        Due.reads("code 1 = a ; code 2 = b ; code\n1\n= c ;", -2);
        Due.reads(Due.many("code # = a ; ", 11) + "code\n0\n= c ;", -2);
        Due.reads(Due.many("code # = a ; ", 11) + "code\n10\n= c ;", -2);
        Due.reads(Due.many("code # = a ; ", 11) + "code\n11\n= c ;", 0);
        Due.reads("layer a { } layer b { } variant a = 1 ; variant b =\n1\n;", -2);
        Due.reads("layer a { }" + Due.many("variant a = # ; ", 5) + "variant a =\n0\n;", -2);
        Due.reads("layer a { }" + Due.many("variant a = # ; ", 5) + "variant a =\n4\n;", -2);
        Due.reads("layer a { }" + Due.many("variant a = # ; ", 5) + "variant a =\n5\n;", 0);
        Due.reads("layer a { } variant a = 1 ; code 1 = a ; coding c = 1 octets { 1 a ; }", 0);
        Due.reads("layer a { service s = 1 { } service t = 1 { } } layer b { service s = 1 { } }", 3);
        Due.reads(CODING + "layer a { service s = 1 { param p : c ; param q : c when p = 1 ; param r : c when p = 1 ; } }", 1);
    }

    private static void namesThatMeanNothing() {
        Due.sentence("another NAME (but a ROW's and a code's) that means nothing");
        Due.reads("coding c = 1 octets { 1 nothing ; } code 1 = nothing ;", 0);
        // In each place stand NAMES of all the other kinds, which mean nothing there.
        String all = "coding c = 1 octets { 1 row ; } code 1 = code1 ; layer l { service s = 1 { param p : c ; } } job j { } layer m of l { } ";
        for (String name : new String[] {"row", "code1", "l", "s", "p", "j", "nothing"}) {
            Due.reads(all + "layer n { service t = 1 { param q :\n" + name + "\n; } }", -2);
        }
        for (String name : new String[] {"row", "code1", "c", "s", "p", "j", "nothing"}) {
            Due.reads(all + "variant\n" + name + "\n= 1 ;", -2);
            Due.reads(all + "layer n of\n" + name + "\n{ }", -2);
        }
        for (String name : new String[] {"row", "code1", "c", "l", "p", "j", "nothing"}) {
            Due.reads(all + "job k { get\n" + name + "\np ; }", -2);
        }
        for (String name : new String[] {"row", "code1", "c", "l", "s", "j", "nothing"}) {
            Due.reads(all + "job k { get s\n" + name + "\n; }", -2);
            Due.reads(all + "layer n { service t = 1 { param q : c ; param r : c when\n" + name + "\n= 1 ; } }", -2);
            Due.reads(all + "layer n { service t = 1 { param q : c ; param r : c times\n" + name + "\n; } }", -2);
        }
        Due.reads(all + "layer n { service t = 1 { param q : c ; } } variant n = 1 ; layer o of n { } job k { get t q ; }", 2);
        Due.sentence("get N N ; (a service, a parameter of it)");
        Due.reads(all + "layer n { service t = 1 { param q : c ; } } job k { get s\nq\n; }", -2);
        Due.reads(all + "layer n { service s = 1 { param q : c ; } } job k { get s\nq\n; }", -2);
    }

    private static void earlierParameters() {
        Due.sentence("an earlier parameter for when and times");
        for (String way : new String[] {"when\n%\n= 1 ;", "times\n%\n;"}) {
            String service = CODING + "layer l { service r = 1 { param x : c ; } service s = 1 { param a : c ; param b : c ; param d : c " + way
                    + " param e : c ; } service t = 1 { param y : c ; } }";
            Due.reads(service.replace("%", "a"), 3);
            Due.reads(service.replace("%", "b"), 3);
            for (String name : new String[] {"d", "e", "x", "y", "c", "s"}) {
                Due.reads(service.replace("%", name), -2);
            }
            Due.reads((CODING + "layer l { service s = 1 { param a : c " + way + " } }").replace("%", "a"), -2);
        }
    }

    private static void layersInRings() {
        Due.sentence("the NAME behind of in a layer that lies in a RING");
        Due.reads("layer a of\na\n{ }", -2);
        Due.reads("layer a of\nb\n{ } layer b of a { }", -2);
        Due.reads("layer z of a { } layer a of\na\n{ }", -2);
        Due.reads("layer z of y { } layer y of a { } layer a of\nb\n{ } layer b of a { }", -2);
        Due.reads("layer a of b { } layer b of c { } layer c of d { } layer d of e { } layer e of f { } layer f of\nf\n{ }", -2);
        Due.reads("layer a of b { } layer b of c { } layer c of d { } layer d of e { } layer e of\nf\n{ } layer f of e { }", -2);
        Due.reads("layer a of b { } layer b of c { } layer c of d { } layer d of e { } layer e of f { } layer f { }", 0);
        Due.reads("layer a of\nb\n{ } layer b of c { } layer c of d { } layer d of e { } layer e of f { } layer f of a { }", -2);
    }
}
