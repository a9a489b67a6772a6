import java.io.IOException;
import java.util.Arrays;

/** The document from its first line to its first promise, each sentence in its order with the answers that it asks for. */
public final class TermsTest {
    private static final String CODING = "coding c = 1 octets ; ";
    private static final String SERVICE = CODING + "layer l { service s = 5 { param p : c ; } } ";
    private static final String[] WORDS = {"coding", "octets", "signed", "scale", "plus", "layer", "of", "service", "param", "when", "times", "code",
        "variant", "job", "put", "get", "add", "sub", "mul", "dup", "swap", "drop", "send", "while"};
    private static Document doc;

    public static void main(String[] args) throws IOException {
        doc = Document.between("## What it is", "## The public face");
        whatItIs();
        calls();
        doc.ends();
        doc = Document.between("## Terms", "## Promise 1");
        text();
        names();
        numbers();
        signsAndWords();
        statements();
        codings();
        tables();
        layersCodesVariantsJobs();
        services();
        parameters();
        ops();
        limits();
        faultsOfForm();
        wrongOnes();
        rings();
        meanings();
        answers();
        groups();
        values();
        editions();
        refusals();
        doc.ends();
        Due.done();
    }

    private static void whatItIs() {
        doc.says("Descriptions of what a controller tells, as texts: codings with scales and tables, layers that are of others,"
                + " services with parameters of which some hang on earlier ones, answers told by them and made by them, variants, codes,"
                + " jobs with counted steps, editions.");
        DescribeText x = Due.with("coding grade = 1 octets scale 1 / 2 plus - 40 ; coding state = 1 octets { 0 off ; 1 on ; }"
                + " layer base { service status = 5 { param fan : state ; param oil : grade when fan = 1 ; } }"
                + " layer sport of base { service boost = 6 { param n : state ; param bars : grade times n ; } }"
                + " variant sport = 3 ; code 17 = hot ; job tell { get status oil ; send ; }");
        Due.tell(x, 69, 1, 95);
        Due.is("a scale: what is above", x.decode(1, 2, 0), 15);
        Due.is("a scale: what is below", x.decode(1, 2, 1), 2);
        Due.is("a table: on", x.decode(1, 1, 4), 4);
        Due.is("a variant", x.variant(3), 2);
        Due.is("a layer that is of another one", x.service(1, 4), 1);
        Due.is("a code: hot", x.code(17), 13);
        Due.is("a job", x.job(1, 2), 1);
        Due.is("what it sent", Due.sent(x), "7");
        Due.is("its steps are counted", x.job(1, 1), 0);
        Due.is("an answer that is made", x.encode(2, 1, 2), 1);
        Due.is("its octets", Due.sent(x), "70 2 0 0");
        Due.is("another edition", Due.read(x, "layer base { }"), 0);
        Due.is("the first edition is kept", x.compare(1), 0);
    }

    private static void calls() {
        doc.says("An object is used for at most 512 calls after it has been made;");
        DescribeText x = new DescribeText();
        for (int call = 1; call <= 510; call++) {
            x.sign(call == 1 ? 'j' << 24 | 'o' << 16 | 'b' << 8 | ' ' : call == 2 ? 'j' << 16 | '{' << 8 | '}' : 0);
        }
        Due.is("read(), call 511", x.read(), 0);
        Due.is("job(1, 0), call 512", x.job(1, 0), 1);
        doc.leavesFree("what later calls answer is free.");
    }

    private static void text() {
        doc.says("THE TEXT is a row of octets, at most 2000.");
        Due.reads(Due.many("\n", 1999) + "}", -2000);
        Due.reads(Due.many("\n", 2000) + "}", 0);
        doc.says("BLANKS are 9, 10, 13, 32;");
        for (int b = 1; b < 256; b++) {
            boolean blank = b == 9 || b == 10 || b == 13 || b == 32;
            Due.is("octet " + b + " between two tokens", Due.read(new DescribeText(), "layer" + (char) b + "l { }"), blank ? 0 : -1);
        }
        doc.says("LINES are counted from 1 on, each 10 ends one.");
        Due.reads("}\n", -1);
        Due.reads("\n}", -2);
        Due.reads("\n\n\t\r \n}\n", -4);
        Due.reads("\r\r}", -1);
        doc.says("TOKENS are the longest that can be read at a place:");
        Due.is("12 is one NUMBER", Due.with("code 12 = n ;").code(12), 1);
        Due.reads("code 1 = layers ; layer of1 { } layer whilex{}job addadd{}", 0);
        Due.reads("layer\nl { } layerm { }", -2);
        Due.reads("code 1 =\na b ;", -2);
    }

    private static void names() {
        doc.says("NAMES (a letter a to z, then such letters and digits, 12 at most),");
        DescribeText x = Due.with("code 1=a;code 2=z;code 3=a0;code 4=z9;code 5=aa;code 6=a00000000000;code 7=a00000000001;code 8=zzzzzzzzzzzz;code 9=a;");
        for (int i = 1; i <= 9; i++) {
            Due.is("code(" + i + ")", x.code(i), i == 9 ? 1 : i);
        }
        for (String none : new String[] {"A", "Z", "aB", "0a", "9", "_", "a_", "a.b", "`", "\u00e4", "a000000000000", "zzzzzzzzzzzzz"}) {
            Due.reads("code 1 =\n" + none + " ;", -2);
        }
    }

    private static void numbers() {
        doc.says("NUMBERS (digits, 6 at most;");
        for (int z : new int[] {0, 9, 10, 123456, 900000, 999999}) {
            Due.is("code(" + z + ")", Due.with("code " + z + " = n ;").code(z), 1);
        }
        Due.is("000007 is 7", Due.with("code 000007 = n ;").code(7), 1);
        for (String none : new String[] {"1000000", "0000000", "1.5", "+1", "0x1", "/", ":"}) {
            Due.reads("code\n" + none + " = n ;", -2);
        }
        doc.says("a letter right behind is none),");
        Due.reads("coding c = 1 octets ;", 0);
        Due.reads("coding c =\n1octets ;", -2);
        Due.reads("coding c = 1 octets {\n5x ; }", -2);
    }

    private static void signsAndWords() {
        doc.says("and the SIGNS { } ; : = / -.");
        Due.reads("coding c=1 octets scale-1/2 plus-3;layer l{service s=1{param p:c;}}", 1);
        for (char other : "!\"#$%&'()*+,.<>?@[\\]^_`|~".toCharArray()) {
            Due.reads("job j {\n" + other + " }", -2);
        }
        doc.says("These NAMES are WORDS, which name nothing: coding octets signed scale plus layer of service param when times code variant job put"
                + " get add sub mul dup swap drop send while.");
        Due.is("how many WORDS", WORDS.length, 24);
        for (String word : WORDS) {
            Due.reads("code 1 =\n" + word + " ;", -2);
            Due.reads("layer\n" + word + " { }", -2);
            Due.reads("code 1 = " + word + "0 ; layer " + word + "s { }", 0);
        }
        Due.reads("code 1 = form ; code 2 = plusminus ; code 3 = end ; code 4 = table ; code 5 = octet ; code 6 = sign ;", 0);
    }

    private static void statements() {
        doc.says("A TEXT is STATEMENTS, none or more");
        Due.reads("", 0);
        Due.reads(" \n", 0);
        Due.reads("layer a { }", 0);
        Due.reads("code 1 = n ; layer a { } code 2 = n ; job j { } layer b { } coding c = 1 octets ; variant a = 1 ;", 0);
        Due.reads("layer a { }\nservice s = 1 { }", -2);
        Due.reads("layer a { }\n;", -2);
        doc.says("(N is a NAME that is no WORD, Z a NUMBER, V is Z or - Z):");
        for (String none : new String[] {"of", "5", "-", "{"}) {
            Due.reads("layer\n" + none + " { }", -2);
        }
        for (String none : new String[] {"n", "of", "- 5", "="}) {
            Due.reads("code\n" + none + " = n ;", -2);
        }
        Due.reads("job j { put 5 ; put - 5 ; put -5 ; put -\n5 ; }", 0);
        for (String none : new String[] {"n", "of", "/ 5", ";"}) {
            Due.reads("job j { put\n" + none + " ; }", -2);
            Due.reads("job j { put -\n" + none + " ; }", -2);
        }
        Due.reads("job j { put -\n- 5 ; }", -2);
    }

    /** Each token on its own line: the text goes well; another token in a place, or the text's end there, is its FAULT. */
    private static void form(String before, String text) {
        String[] tokens = text.split(" ");
        String all = before + "\n" + Due.lines(tokens);
        Due.is("read() of [" + all + "] has no FAULT", Math.min(0, Due.read(new DescribeText(), all)), 0);
        for (int i = 0; i < tokens.length; i++) {
            String[] changed = tokens.clone();
            changed[i] = tokens[i].equals("plus") ? "of" : "plus";
            Due.reads(before + "\n" + Due.lines(changed), -i - 2);
            if (i > 0) {
                String[] first = Arrays.copyOf(tokens, i);
                Due.reads(before + "\n" + Due.lines(first) + "\n", -i - 2);
            }
        }
    }

    /** The NUMBER between a text's two parts has these bounds. */
    private static void bounds(String before, String behind, int low, int high) {
        for (int z : new int[] {0, low - 1, low, high, high + 1}) {
            if (z >= 0) {
                int answer = Due.read(new DescribeText(), before + "\n" + z + "\n" + behind);
                Due.is("read() of [" + before + " " + z + " " + behind + "]", Math.min(0, answer), z >= low && z <= high ? 0 : -2);
            }
        }
    }

    private static void codings() {
        doc.says("coding N = Z octets FORM ; (Z 1 to 4;");
        form("", "coding n = 1 octets ;");
        form("", "coding n = 4 octets signed ;");
        bounds("coding c =", "octets ;", 1, 4);
        bounds("coding c =", "octets signed ;", 1, 4);
        bounds("coding c =", "octets scale 1 / 1 plus 0 ;", 1, 4);
        doc.says("FORM is nothing, signed, or scale V / Z plus V with Z above 0)");
        form("", "coding n = 2 octets scale 5 / 7 plus 9 ;");
        form("", "coding n = 2 octets scale - 5 / 7 plus - 9 ;");
        bounds("coding c = 1 octets scale 1 /", "plus 0 ;", 1, 999999);
        Due.reads("coding n = 2 octets signed\nscale 5 / 7 plus 9 ;", -2);
        Due.reads("coding n = 2 octets scale 5 /\n- 7 plus 9 ;", -2);
        Due.reads("coding n = 2 octets scale 0 / 1 plus 0 ;", 0);
    }

    private static void tables() {
        doc.says("coding N = Z octets { ROWS } (a TABLE; ROWS Z N ; 8 at most)");
        form("", "coding n = 3 octets { 5 on ; 0 off ; }");
        bounds("coding c =", "octets { 1 on ; }", 1, 4);
        most("coding c = 1 octets {", "# n ;", 8, "}");
        Due.reads("coding c = 1 octets {\n- 1 n ; }", -2);
        Due.reads("coding c = 1 octets { 1 n ; }\n;", -2);
        Due.reads("coding c = 1 octets signed\n{ 1 n ; }", -2);
    }

    private static void layersCodesVariantsJobs() {
        doc.says("layer N { SERVICES }");
        form("", "layer n { }");
        form(CODING, "layer n { service s = 5 { } service r = 6 { } }");
        doc.says("layer N of N { SERVICES }");
        form("layer m { }", "layer n of m { }");
        form("layer m { }", "layer n of m { service s = 5 { } }");
        Due.reads("layer l { } layer n of l\nof l { }", -2);
        doc.says("code Z = N ;");
        form("", "code 5 = n ;");
        Due.reads("code 0 = n ; code 999999 = n ;", 0);
        doc.says("variant N = Z ; (N a layer)");
        form("layer n { }", "variant n = 5 ;");
        Due.reads("layer n { } variant n = 0 ; variant n = 999999 ;", 0);
        Due.reads("job n { } coding n = 1 octets ; variant\nn = 5 ;", -2);
        doc.says("job N { OPS }");
        form("", "job n { }");
        form("", "job n { add ; drop ; }");
    }

    private static void services() {
        doc.says("SERVICES, none or more:");
        for (int count = 0; count <= 3; count++) {
            Due.reads("layer l { " + Due.many("service s# = 1 { } ", count) + "}", count);
        }
        Due.reads("layer l { service s = 1 { }\nlayer m { } }", -2);
        doc.says("service N = Z { PARAMETERS } (Z 0 to 191).");
        form("", "layer n { service s = 191 { } }");
        bounds("layer l { service s =", "{ } }", 0, 191);
    }

    private static void parameters() {
        doc.says("PARAMETERS, none or more, 8 at most:");
        most(CODING + "layer l { service s = 1 {", "param p# : c ;", 8, "} }");
        doc.says("param N : N ;");
        form(CODING, "layer l { service s = 5 { param a : c ; } }");
        doc.says("param N : N when N = Z ;");
        form(CODING, "layer l { service s = 5 { param a : c ; param b : c when a = 7 ; } }");
        doc.says("param N : N times N ;");
        form(CODING, "layer l { service s = 5 { param a : c ; param b : c times a ; } }");
        Due.reads(CODING + "layer l { service s = 5 { param a : c ; param b : c times a\nwhen a = 1 ; } }", -2);
        doc.says("(the second N a coding, the third one a parameter before it).");
        Due.reads(CODING + "layer l { service s = 5 { param a : c ; param b :\na ; } }", -2);
        Due.reads(CODING + "layer l { service s = 5 { param a : c ; param b : c when\nc = 1 ; } }", -2);
        Due.reads(CODING + "layer l { service s = 5 { param a : c times\nb ; param b : c ; } }", -2);
        Due.reads(CODING + "layer l { service s = 5 { param a : c when\na = 1 ; } }", -2);
    }

    private static void ops() {
        doc.says("OPS, none or more:");
        Due.reads("job j { }", 0);
        Due.reads("job j { add ; }", 0);
        Due.reads("job j { add ; add ; add ; }", 0);
        Due.reads("job j { add ;\n; }", -2);
        doc.says("put V ;");
        form("", "job n { put 5 ; put - 5 ; }");
        Due.reads("job n { put\n; }", -2);
        doc.says("get N N ; (a service, a parameter of it)");
        form(SERVICE, "job n { get s p ; }");
        Due.reads(SERVICE + "job n { get\np s ; }", -2);
        Due.reads(SERVICE + "layer m { service r = 6 { param q : c ; } } job n { get s\nq ; }", -2);
        doc.says("add ; sub ; mul ; dup ; swap ; drop ; send ;");
        form("", "job n { add ; sub ; mul ; dup ; swap ; drop ; send ; }");
        for (String op : new String[] {"add", "sub", "mul", "dup", "swap", "drop", "send"}) {
            Due.reads("job n { " + op + "\n5 ; }", -2);
            Due.reads("job n { " + op + "\n{ } }", -2);
        }
        for (String none : new String[] {"div", "n", "5", "when", "times", "job", "code"}) {
            Due.reads("job n {\n" + none + " ; }", -2);
        }
        doc.says("while { OPS }.");
        form("", "job n { while { } while { add ; while { sub ; } mul ; } }");
        Due.reads("job n { while { }\n; }", -2);
        Due.reads("job n { while\n; }", -2);
    }

    /** So many of a part go well, one more is the FAULT; each stands on its own line. */
    private static void most(String before, String part, int count, String behind) {
        int answer = Due.read(new DescribeText(), before + Due.many("\n" + part, count) + behind);
        Due.is("read() with " + count + " of " + part, Math.min(0, answer), 0);
        Due.reads(before + Due.many("\n" + part, count + 1) + behind, -count - 2);
    }

    private static void limits() {
        doc.says("There are at most 12 codings, 6 layers, 16 services, 12 codes, 6 variants, 4 jobs with 40 OPS each (with those within),");
        most("", "coding c# = 1 octets ;", 12, "");
        most("coding t = 1 octets { }", "coding c# = 1 octets { }", 11, "");
        most("", "layer l# { }", 6, "");
        most("layer l {", "service s# = 1 { }", 16, "}");
        most("layer k { " + Due.many("service s# = 1 { }", 9) + "} layer l {", "service s# = 1 { }", 7, "}");
        most("", "code # = n ;", 12, "");
        most("layer l { }", "variant l = # ;", 6, "");
        most("", "job j# { }", 4, "");
        most("job j {", "add ;", 40, "}");
        most("job i { " + Due.many("add ; ", 40) + "} job j { while { while {", "add ;", 38, "} } }");
        doc.says("and one while in another one in another one.");
        Due.reads("job j { while { while { while { } } while { while { } while { } } } }", 0);
        Due.reads("job j { while { while { while {\nwhile { } } } } }", -2);
        Due.reads("job j { while { while { while { } while {\nwhile { } } } } }", -2);
    }

    private static void faultsOfForm() {
        doc.says("THE FAULT is the LINE of the first token with which no text goes on");
        Due.reads("code 1 = n ;\ncode 2 n ;\n}\n?", -2);
        Due.reads("code 1 = n ;\n}\ncode 1 = n ;", -2);
        Due.reads("layer a {\nservice s = 1 {\nparam p c ; } }", -3);
        doc.says("(also of one that begins one too many,");
        Due.reads(Due.many("job j# { }\n", 4) + "job\n5", -5);
        Due.reads("job j { " + Due.many("add ;", 40) + "\nput\n5 ; }", -2);
        Due.reads("coding c = 1 octets { " + Due.many("# n ;", 8) + "\n8\nn ; }", -2);
        doc.says("or is a NUMBER out of its bounds),");
        Due.reads("coding c =\n0\nbytes", -2);
        Due.reads("coding c =\n5\nbytes", -2);
        Due.reads("coding c = 1 octets scale 1 /\n0\nminus", -2);
        Due.reads("layer l { service s =\n192\n}", -2);
        doc.says("of an octet with which no token begins,");
        for (int b = 1; b < 256; b++) {
            boolean none = (b < 97 || b > 122) && (b < 48 || b > 57) && "{};:=/-\t\n\r ".indexOf(b) < 0;
            if (none) {
                Due.is("octet " + b + " on line 2", Due.read(new DescribeText(), "layer l {\n" + (char) b + "\n}"), -2);
            }
        }
        doc.says("of the first letter or digit that a NAME or NUMBER is too long by,");
        Due.reads("code 1 =\nabcdefghijklm\n;", -2);
        Due.reads("code 1 =\na12345678901\n;", 0);
        Due.reads("code 1 =\na123456789012\n;", -2);
        Due.reads("code\n1234567\n= n ;", -2);
        doc.says("or of the text's end.");
        Due.reads("layer", -1);
        Due.reads("layer l {\n\n", -3);
        Due.reads("layer l { }\n\n", 0);
        Due.reads("code 1 = n\n", -2);
    }

    private static void wrongOnes() {
        doc.says("If there is none of these, it is the LINE of the first NAME or NUMBER in the text that is wrong:");
        Due.reads("layer a of x { }\nlayer a { }\nvariant b = 1 ;", -1);
        Due.reads("variant a = 1 ; variant a =\n1 ; layer a of\nx { }", -2);
        Due.reads("layer a of x { }\nlayer a { }\n}", -3);
        doc.says("a NAME that is given (the first N; a ROW's is not) and was given before to one of the same kind"
                + " (codings, layers, jobs; services of one layer, parameters of one service);");
        Due.reads("coding a = 1 octets ; coding\na = 2 octets { }", -2);
        Due.reads("layer a { } layer b { } layer\na of b { }", -2);
        Due.reads("job a { } job\na { add ; }", -2);
        Due.reads("layer a { service s = 1 { } service\ns = 2 { } }", -2);
        Due.reads(CODING + "layer a { service s = 1 { param p : c ; param\np : c ; } }", -2);
        Due.reads("layer a { service s = 1 { } } layer b { service s = 1 { } }", 2);
        Due.reads(CODING + "layer a { service s = 1 { param p : c ; } service t = 1 { param p : c ; } }", 2);
        Due.reads("coding a = 1 octets { 1 a ; 2 a ; } layer a { service a = 1 { param a : a ; } } job a { } code 1 = a ; code 2 = a ;"
                + " variant a = 1 ; variant a = 2 ;", 1);
        doc.says("a ROW's, code's or variant's Z that an earlier one has (ROWS: of the same TABLE);");
        Due.reads("coding a = 1 octets { 5 x ; 6 x ;\n5 y ; }", -2);
        Due.reads("coding a = 1 octets { 5 x ; } coding b = 1 octets { 5 x ; } code 5 = x ; layer l { } variant l = 5 ;", 0);
        Due.reads("code 5 = x ; code\n005 = y ;", -2);
        Due.reads("layer l { } layer m { } variant l = 5 ; variant m =\n5 ;", -2);
        doc.says("another NAME (but a ROW's and a code's) that means nothing, an earlier parameter for when and times;");
        Due.reads("coding a = 1 octets { 5 nothing ; } code 5 = nothing ;", 0);
        Due.reads("layer l of\nnothing { }", -2);
        Due.reads("variant\nnothing = 5 ;", -2);
        Due.reads("layer l { service s = 1 { param p :\nnothing ; } }", -2);
        Due.reads("job j { get\nnothing p ; }", -2);
        Due.reads(SERVICE + "job j { get s\nnothing ; }", -2);
        Due.reads(CODING + "layer l { service r = 1 { param a : c ; } service s = 1 { param b : c ; param d : c when\na = 1 ; } }", -2);
        Due.reads(CODING + "layer l { service s = 1 { param b : c ; param d : c times\ne ; param e : c ; } }", -2);
        Due.reads(CODING + "layer l { service s = 1 { param b : c ; param d : c times\nb ; param e : c when d = 0 ; } }", 1);
    }

    private static void rings() {
        doc.says("the NAME behind of in a layer that lies in a RING: that is OF others, one of another, until it is OF itself.");
        Due.reads("layer a of\na { }", -2);
        Due.reads("layer a of\nb { } layer b of\na { }", -2);
        Due.reads("layer x { } layer a of\nd { } layer b of a { } layer d of b { }", -2);
        // One that is OF a layer in a RING does not lie in it.
        Due.reads("layer x of a { } layer a of\na { }", -2);
        Due.reads("layer a of b { } layer b of d { } layer d of e { } layer e of f { } layer f of g { } layer g { }", 0);
    }

    private static void meanings() {
        doc.says("A NAME means the first thing of its kind in the text that has it (earlier or later);");
        DescribeText x = Due.with("variant m = 1 ; layer l of m { service s = 5 { param p : d ; } } layer m { } coding c = 1 octets ; coding d = 2 octets ;");
        Due.is("variant(1) of a later layer", x.variant(1), 2);
        Due.is("a later coding", x.parameter(1, 1, 1), 2);
        doc.says("a service the first one of all.");
        DescribeText two = Due.with(CODING + "job j { get s p ; send ; } layer a { service s = 5 { param p : c ; } } layer b { service s = 6 { param p : c ; } }"
                + " variant b = 1 ;");
        Due.tell(two, 69, 9);
        Due.is("variant(1)", two.variant(1), 2);
        Due.is("job(1, 2)", two.job(1, 2), 1);
        Due.is("the first layer's service", Due.sent(two), "9");
        doc.says("NAMES (no WORDS) have numbers from 1 on as they first stand in the text.");
        DescribeText y = Due.with("code 9 = b ; coding c = 1 octets { 1 d ; 2 b ; } layer a of e { service s = 5 { param p : c ; param q : c when p = 1 ; } } layer e { }"
                + " code 10 = e ; code 11 = z ;");
        // b 1, c 2, d 3, a 4, e 5, s 6, p 7, q 8, z 9
        Due.is("code(9)", y.code(9), 1);
        Due.is("code(10)", y.code(10), 5);
        Due.is("code(11)", y.code(11), 9);
        Due.is("service(1, 0)", y.service(1, 0), 6);
        Due.is("parameter(1, 2, 0)", y.parameter(1, 2, 0), 8);
        doc.says("Codings, layers, services (of all layers), jobs have numbers from 1 on as they begin, parameters in their service.");
        DescribeText z = Due.with("coding b = 1 octets ; coding a = 2 octets ; layer n { service t = 1 { param p : a ; } } job k { put 1 ; send ; }"
                + " layer m { service s = 2 { param r : b ; param q : a ; } } job j { put 2 ; send ; }");
        int[][] want = {{1, 1}, {2, 2}};
        for (int i = 1; i <= 2; i++) {
            Due.is("service(" + i + ", 1)", z.service(i, 1), want[i - 1][0]);
            Due.is("service(" + i + ", 3)", z.service(i, 3), want[i - 1][1]);
            Due.is("job(" + i + ", 2)", z.job(i, 2), 1);
            Due.is("SENT by job " + i, Due.sent(z), "" + i);
        }
        Due.is("the coding of parameter 1 of service 1", z.parameter(1, 1, 1), 2);
        Due.is("the coding of parameter 1 of service 2", z.parameter(2, 1, 1), 1);
        Due.is("the coding of parameter 2 of service 2", z.parameter(2, 2, 1), 2);
    }

    private static DescribeText with(String parameters, int... octets) {
        DescribeText x = Due.with("coding u = 1 octets ; coding w = 2 octets ; coding g = 1 octets signed ; layer l { service s = 5 { " + parameters + " } }");
        Due.tell(x, octets);
        return x;
    }

    /** The places of the parameters' first octets in an ANSWER, -1 for those that are not there. */
    private static void places(DescribeText x, int... want) {
        for (int p = 1; p <= want.length; p++) {
            Due.is("decode(1, " + p + ", 2)", x.decode(1, p, 2), want[p - 1]);
        }
    }

    private static void answers() {
        doc.says("AN ANSWER is a row of octets, at most 64.");
        DescribeText x = with("param n : u ; param a : w times n ; param b : w times n ; param d : w times n ; param e : w times n ; param f : u ;", 69, 8);
        for (int i = 3; i <= 64; i++) {
            Due.tell(x, 0);
        }
        places(x, 1, 2, 18, 34, -1, -1);
        Due.tell(x, 69);
        places(x, -1, -1);
        doc.says("By a service: its first octet is 64 more than the service's Z, otherwise no parameter is there.");
        places(with("param a : u ;", 69, 1), 1);
        places(with("param a : u ;", 5, 1), -1);
        places(with("param a : u ;", 68, 1), -1);
        places(with("param a : u ;", 70, 1), -1);
        places(with("param a : u ;"), -1);
        DescribeText high = Due.with(CODING + "layer l { service s = 191 { param a : c ; } }");
        Due.tell(high, 255, 7);
        places(high, 1);
        doc.says("Behind it the parameters, in order:");
        places(with("param a : u ; param b : w ; param d : u ;", 69, 1, 2, 3, 4), 1, 2, 4);
        doc.says("one with when is not there, unless that one is there, and its RAW is Z.");
        String when = "param a : u ; param b : u when a = 1 ; param d : u when b = 0 ; param e : u ;";
        places(with(when, 69, 1, 0, 8, 9), 1, 2, 3, 4);
        places(with(when, 69, 1, 7, 9), 1, 2, -1, 3);
        places(with(when, 69, 0, 9), 1, -1, -1, 2);
        places(with(when, 69, 2, 9), 1, -1, -1, 2);
    }

    private static void groups() {
        doc.says("One with times has as many GROUPS as the RAW of that one says (8 at most, none below 0 and when that one is not there),"
                + " others one; a GROUP is as many octets as its coding has.");
        int[] raws = {0, 1, 2, 8, 9, 127, 128, 255};
        int[] counts = {0, 1, 2, 8, 8, 8, 0, 0};
        for (int i = 0; i < raws.length; i++) {
            DescribeText x = with("param n : g ; param a : w times n ; param b : u ;", 69, raws[i]);
            for (int k = 0; k < 17; k++) {
                Due.tell(x, 1);
            }
            places(x, 1, counts[i] == 0 ? -1 : 2, 2 + 2 * counts[i]);
            Due.is("octets of " + raws[i] + " GROUPS", x.decode(1, 2, 3), 2 * counts[i]);
            Due.is("octets of one GROUP", x.decode(1, 3, 3), 1);
        }
        places(with("param n : u ; param m : u when n = 1 ; param a : u times m ; param b : u ;", 69, 0, 9), 1, -1, -1, 2);
        doc.says("With no GROUP it is not there;");
        places(with("param n : u ; param a : u times n ; param b : u when a = 0 ; param d : u times a ; param e : u ;", 69, 0, 9), 1, -1, -1, -1, 2);
        doc.says("if not all of its octets are, it is not, and none behind it.");
        places(with("param a : w ; param b : u ;", 69, 1), -1, -1);
        places(with("param n : u ; param a : u times n ; param b : u ;", 69, 3, 1, 1), 1, -1, -1);
        places(with("param n : u ; param a : u times n ; param b : u ;", 69, 3, 1, 1, 1), 1, 2, -1);
    }

    private static void values() {
        doc.says("Its RAW is the number in its first GROUP, the highest octet first, with signed as it is with a sign.");
        Due.is("the highest octet first", with("param a : w ;", 69, 1, 2).decode(1, 1, 0), 258);
        Due.is("the first GROUP", with("param n : u ; param a : w times n ;", 69, 2, 0, 7, 0, 9).decode(1, 2, 0), 7);
        Due.is("without a sign", with("param a : u ;", 69, 254).decode(1, 1, 0), 254);
        Due.is("with a sign", with("param a : g ;", 69, 254).decode(1, 1, 0), -2);
        Due.is("with a sign, the highest", with("param a : g ;", 69, 127).decode(1, 1, 0), 127);
        Due.is("with a sign, the lowest", with("param a : g ;", 69, 128).decode(1, 1, 0), -128);
        doc.says("Its VALUE is RAW, or with scale RAW times the first V, over Z, plus the second V.");
        Due.is("a VALUE that is RAW", with("param a : u ;", 69, 9).decode(1, 1, 0), 9);
        Due.is("what is below then", with("param a : u ;", 69, 9).decode(1, 1, 1), 1);
        DescribeText x = Due.with("coding c = 1 octets scale - 3 / 4 plus 10 ; layer l { service s = 5 { param a : c ; param b : c ; } }");
        Due.tell(x, 69, 7, 8);
        Due.is("above in 7 * -3 / 4 + 10", x.decode(1, 1, 0), 19);
        Due.is("below in 7 * -3 / 4 + 10", x.decode(1, 1, 1), 4);
        Due.is("above in 8 * -3 / 4 + 10", x.decode(1, 2, 0), 4);
        Due.is("below in 8 * -3 / 4 + 10", x.decode(1, 2, 1), 1);
    }

    private static void editions() {
        doc.says("EDITIONS are the texts that were READ without a FAULT, numbered from 1 on, the first 4 are kept; the last one is IN HAND.");
        DescribeText x = new DescribeText();
        Due.is("a FAULT", Due.read(x, "}"), -1);
        Due.is("compare(1)", x.compare(1), -1);
        for (int i = 1; i <= 6; i++) {
            Due.is("read()", Due.read(x, "layer l { " + Due.many("service s# = # { } ", i) + "}"), i);
            Due.is("service(" + i + ", 1): the last one is IN HAND", x.service(i, 1), i - 1);
            for (int k = 0; k <= 7; k++) {
                Due.is("compare(" + k + ") with " + i, x.compare(k), k >= 1 && k <= Math.min(i, 4) ? i - k : -1);
            }
        }
        doc.says("Its layer IN USE is the first one at first.");
        DescribeText y = Due.with("layer a { service s = 1 { } } layer b { service s = 2 { } } variant a = 1 ; variant b = 2 ;");
        Due.is("service(2, 4)", y.service(2, 4), 1);
        doc.says("SENT is a row of octets, at first none.");
        Due.is("SENT at first", Due.sent(new DescribeText()), "");
        Due.is("SENT of one that has a text IN HAND", Due.sent(y), "");
    }

    private static void refusals() {
        doc.says("REFUSALS change nothing and answer, the first that fits: -1 an unknown number, -2 outside a range, -3 not in this state, -4 no room.");
        DescribeText x = Due.with(SERVICE + "job j { put 7 ; send ; } job full { put 1 ; while { put 7 ; send ; put 1 ; } }");
        Due.is("encode(1, 1, 9)", x.encode(1, 1, 9), 1);
        Due.is("job(9, 9999): an unknown number goes before a range", x.job(9, 9999), -1);
        Due.is("job(1, 9999)", x.job(1, 9999), -2);
        Due.is("service(2, 9)", x.service(2, 9), -1);
        Due.is("service(1, 9)", x.service(1, 9), -2);
        Due.is("parameter(1, 2, 9)", x.parameter(1, 2, 9), -1);
        Due.is("decode(1, 2, 9)", x.decode(1, 2, 9), -1);
        Due.is("compare(2)", x.compare(2), -1);
        Due.is("nothing changed", Due.sent(x), "69 9");
        Due.is("variant(1) with nothing IN HAND", new DescribeText().variant(1), -3);
        Due.is("no room for a 65th octet", x.job(2, 5000), -4);
    }
}
