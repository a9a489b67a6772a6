/** The edges of THE TEXT, BLANKS, LINES and TOKENS, a method for each sentence of the document. */
public final class TextEdgesTest {
    private static final String CODE = "code 1 = n ;";
    private static final String[] WORDS = {"coding", "octets", "signed", "scale", "plus", "layer", "of", "service", "param", "when",
        "times", "code", "variant", "job", "put", "get", "add", "sub", "mul", "dup", "swap", "drop", "send", "while"};

    public static void main(String[] args) {
        textIsAtMost2000();
        blanksAreFour();
        linesEndWith10();
        nameLetters();
        nameLengths();
        numberDigits();
        numberLengths();
        letterBehindNumber();
        signs();
        longestTokens();
        wordsNameNothing();
        calls512();
        Due.done();
    }

    private static boolean isBlank(int b) {
        return b == 9 || b == 10 || b == 13 || b == 32;
    }

    private static boolean isLetter(int b) {
        return b >= 97 && b <= 122;
    }

    private static boolean isDigit(int b) {
        return b >= 48 && b <= 57;
    }

    private static String blanks(int count) {
        return Due.many(" ", count);
    }

    private static void textIsAtMost2000() {
        Due.sentence("THE TEXT is a row of octets, at most 2000");
        for (int length : new int[] {12, 13, 1999, 2000}) {
            DescribeText x = new DescribeText();
            Due.is("read() of " + length + " octets", Due.read(x, blanks(length - CODE.length()) + CODE), 0);
            Due.is("code(1) in " + length + " octets", x.code(1), 1);
        }
        for (int length : new int[] {2001, 2002, 2003, 2004, 2005, 2040}) {
            DescribeText x = new DescribeText();
            int want = length - CODE.length() >= 2000 ? 0 : -1;
            Due.is("read() of " + length + " octets", Due.read(x, blanks(length - CODE.length()) + CODE), want);
            Due.is("code(1) in " + length + " octets", x.code(1), 0);
        }
        for (String last : new String[] {"code", "code 1", "code 123456", "code 1234567", "code 1a", "code 1 =", "code 1 = n", "code 1 = abcdefghijkl", "x", "-", "\u0080"}) {
            Due.is("read() of 2000 octets with " + last + " at the end", Due.read(new DescribeText(), Due.many("\n", 2000 - last.length()) + last),
                    -2001 + last.length());
        }
        Due.is("octet 2000 is a fault of its own", Due.read(new DescribeText(), Due.many("\n", 1999) + ";"), -2000);
        Due.is("octet 2001 is none", Due.read(new DescribeText(), Due.many("\n", 2000) + ";"), 0);
    }

    private static void blanksAreFour() {
        Due.sentence("BLANKS are 9, 10, 13, 32");
        for (int b = 1; b <= 255; b++) {
            Due.is("read() of octet " + b, Due.read(new DescribeText(), "" + (char) b), isBlank(b) ? 0 : -1);
            Due.is("read() with octet " + b + " before", Due.read(new DescribeText(), (char) b + CODE), isBlank(b) ? 0 : -1);
            Due.is("read() with octet " + b + " between", Due.read(new DescribeText(), "code" + (char) b + "1 = n ;"), isBlank(b) ? 0 : -1);
            Due.is("read() with octet " + b + " behind", Due.read(new DescribeText(), CODE + (char) b), isBlank(b) ? 0 : -1);
        }
    }

    private static void linesEndWith10() {
        Due.sentence("LINES are counted from 1 on, each 10 ends one");
        for (int count : new int[] {0, 1, 2, 3, 127, 128, 255, 256, 1998, 1999}) {
            Due.is("the line behind " + count, Due.read(new DescribeText(), Due.many("\n", count) + "}"), -count - 1);
        }
        Due.reads("\r}", -1);
        Due.reads("\t}\n", -1);
        Due.reads("\r\n}", -2);
        Due.reads("\n\r}", -2);
        Due.reads("}\n\n", -1);
        Due.reads("layer a\n{ }\n}", -3);
    }

    private static void nameLetters() {
        Due.sentence("NAMES (a letter a to z, then such letters and digits");
        for (int b = 1; b <= 255; b++) {
            int fault = b == 10 ? -2 : -1;
            Due.is("a NAME that is octet " + b, Due.read(new DescribeText(), "code 1 = " + (char) b + " ;"), isLetter(b) ? 0 : fault);
            boolean goesOn = isLetter(b) || isDigit(b) || isBlank(b);
            Due.is("a NAME with octet " + b + " behind", Due.read(new DescribeText(), "code 1 = n" + (char) b + " ;"), goesOn ? 0 : -1);
        }
        DescribeText x = Due.with("code 1 = a ; code 2 = a0 ; code 3 = a9 ; code 4 = az ; code 5 = z ; code 6 = z0 ; code 7 = a00 ; code 8 = a ;");
        for (int i = 1; i <= 7; i++) {
            Due.is("code(" + i + ")", x.code(i), i);
        }
        Due.is("code(8)", x.code(8), 1);
    }

    private static void nameLengths() {
        Due.sentence("NAMES (.. 12 at most)");
        for (int length = 1; length <= 30; length++) {
            int want = length <= 12 ? 0 : -2;
            Due.reads("code 1 =\n" + Due.many("a", length) + "\n;", want);
            Due.reads("code 1 =\nz" + Due.many("9", length - 1) + "\n;", want);
        }
        // Were it cut into two NAMES, a service and a parameter of it, this would be a text.
        String got = "coding c = 1 octets ; layer l { service abcdefghijkl = 1 { param m : c ; } } job j { get ";
        Due.reads(got + "abcdefghijkl m ; }", 1);
        Due.reads(got + "\nabcdefghijklm ; }", -2);
        DescribeText x = Due.with("code 1 = abcdefghijkl ; code 2 = abcdefghijkk ; code 3 = bbcdefghijkl ; code 4 = abcdefghijk ; code 5 = abcdefghijkl ;");
        int[] want = {1, 2, 3, 4, 1};
        for (int i = 0; i < want.length; i++) {
            Due.is("code(" + (i + 1) + ") of NAMES of 12", x.code(i + 1), want[i]);
        }
    }

    private static void numberDigits() {
        Due.sentence("NUMBERS (digits");
        for (int b = 1; b <= 255; b++) {
            int fault = b == 10 ? -2 : -1;
            Due.is("a NUMBER that is octet " + b, Due.read(new DescribeText(), "code " + (char) b + " = n ;"), isDigit(b) ? 0 : fault);
            boolean goesOn = isDigit(b) || isBlank(b);
            Due.is("a NUMBER with octet " + b + " behind", Due.read(new DescribeText(), "code 1" + (char) b + " = n ;"), goesOn ? 0 : -1);
        }
        for (int digit = 0; digit <= 9; digit++) {
            DescribeText x = Due.with("code " + digit + " = a ; code 1" + digit + " = b ;");
            Due.is("code(" + digit + ")", x.code(digit), 1);
            Due.is("code(1" + digit + ")", x.code(10 + digit), 2);
        }
    }

    private static void numberLengths() {
        Due.sentence("NUMBERS (.. 6 at most");
        for (int length = 1; length <= 30; length++) {
            int want = length <= 6 ? 0 : -2;
            Due.reads("code\n" + Due.many("9", length) + "\n= n ;", want);
            Due.reads("code\n" + Due.many("0", length) + "\n= n ;", want);
        }
        Due.is("code(123456)", Due.with("code 123456 = n ;").code(123456), 1);
        Due.is("code(999999)", Due.with("code 999999 = n ;").code(999999), 1);
        Due.is("code(1) by 000001", Due.with("code 000001 = n ;").code(1), 1);
    }

    private static void letterBehindNumber() {
        Due.sentence("NUMBERS (.. a letter right behind is none)");
        String row = "coding c = 1 octets {\n";
        for (char letter = 'a'; letter <= 'z'; letter++) {
            Due.reads(row + "5 " + letter + " ; }", 0);
            Due.reads(row + "5" + letter + " ; }", -2);
            Due.reads(row + "123456" + letter + " ; }", -2);
        }
        Due.reads("coding c = 1 octets ;", 0);
        Due.reads("coding c =\n1octets ;", -2);
        Due.reads("coding c=1 octets{5 x;}", 0);
    }

    private static void signs() {
        Due.sentence("the SIGNS { } ; : = / -");
        Due.reads("coding c=1 octets scale-1/2 plus-3;layer l{service s=1{param p:c;}}", 1);
        for (String other : new String[] {"[", "]", "(", ")", ",", ".", "<", ">", "+", "_", "|", "~", "\\", "!", "z", "0"}) {
            Due.reads("job j\n" + other + "\n}", -2);
            Due.reads("job j {\n" + other + "\n", -2);
            Due.reads("job j { add\n" + other + "\n}", -2);
            Due.reads("code 1\n" + other + "\nn ;", -2);
            Due.reads("coding c = 1 octets scale 1\n" + other + "\n1 plus 1 ;", -2);
            Due.reads("coding c = 1 octets ; layer l { service s = 1 { param p\n" + other + "\nc ; } }", -2);
        }
        for (String other : new String[] {"+", "_", "~", "z"}) {
            Due.reads("job j { put\n" + other + "\n5 ; }", -2);
        }
    }

    private static void longestTokens() {
        Due.sentence("TOKENS are the longest that can be read at a place");
        Due.reads("code1 = n ;", -1);
        Due.reads("layera { }", -1);
        Due.reads("layer a ofb { } layer b { }", -1);
        Due.reads("coding c = 1 octetssigned ;", -1);
        Due.reads("coding c = 1 octets scale1 / 1 plus 1 ;", -1);
        Due.reads("coding c = 1 octets scale 1 / 1 plus1 ;", -1);
        Due.reads("job j { put5 ; }", -1);
        Due.reads("code 1 2 = n ;", -1);
        Due.reads("code 1 = a b ;", -1);
        DescribeText x = Due.with("code 12 = ab ; code 1 = a ; code 2 = b ; code 3 = ofa ; code 4 = addadd ;");
        Due.is("code(12)", x.code(12), 1);
        Due.is("code(1)", x.code(1), 2);
        Due.is("code(2)", x.code(2), 3);
        Due.is("code(3)", x.code(3), 4);
        Due.is("code(4)", x.code(4), 5);
    }

    /** In each place where a NAME stands a WORD is a fault, and what is nearly a WORD is none. */
    private static void wordsNameNothing() {
        Due.sentence("These NAMES are WORDS, which name nothing");
        String base = "coding x = 1 octets ; layer x { service x = 1 { param x : x ; } } ";
        String[] places = {"coding\n%\n= 1 octets ;", "coding c = 1 octets { 1\n%\n; }", "layer\n%\n{ }", "layer l of\n%\n{ }",
            "code 1 =\n%\n;", "variant\n%\n= 1 ;", "job\n%\n{ }", "layer l { service\n%\n= 1 { } }",
            "layer l { service s = 1 { param\n%\n: x ; } }", "layer l { service s = 1 { param p :\n%\n; } }",
            "layer l { service s = 1 { param x : x ; param q : x when\n%\n= 1 ; } }",
            "layer l { service s = 1 { param x : x ; param q : x times\n%\n; } }", "job j { get\n%\nx ; }", "job j { get x\n%\n; }"};
        for (String place : places) {
            for (String word : WORDS) {
                Due.reads(base + place.replace("%", word), -2);
            }
            boolean given = place.startsWith("coding\n") || place.startsWith("layer\n");
            Due.is("read() of " + place + " with x", Math.min(0, Due.read(new DescribeText(), base + place.replace("%", "x"))), given ? -2 : 0);
        }
        for (String word : WORDS) {
            Due.reads("code 1 = " + word.substring(0, word.length() - 1) + " ;", 0);
            Due.reads("code 1 = " + word + "s ;", 0);
            Due.reads("code 1 = " + word + "0 ;", 0);
        }
    }

    private static void calls512() {
        Due.sentence("An object is used for at most 512 calls after it has been made");
        DescribeText x = new DescribeText();
        String text = "coding c = 1 octets ; layer l { service s = 5 { param p : c ; } } code 7 = k ; job j { get s p ; send ; }";
        // 500 calls for 2000 octets, and the rest of the 512 are answered as due.
        Due.sign(x, blanks(2000 - text.length()) + text);
        Due.is("read(), call 501", x.read(), 1);
        x.octet((byte) 69);
        x.octet((byte) 200);
        Due.is("encode(1, 1, 9), call 504", x.encode(1, 1, 9), 1);
        Due.is("out(1), call 505", x.out(1), 9);
        Due.is("job(1, 2), call 506", x.job(1, 2), 1);
        Due.is("out(0), call 507", x.out(0), -56);
        Due.is("compare(1), call 508", x.compare(1), 0);
        Due.is("variant(1), call 509", x.variant(1), 1);
        Due.is("code(7), call 510", x.code(7), 5);
        Due.is("service(1, 4), call 511", x.service(1, 4), 1);
        Due.is("decode(1, 1, 0), call 512", x.decode(1, 1, 0), 200);
    }
}
