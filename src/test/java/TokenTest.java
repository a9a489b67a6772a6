/** Terms: BLANKS, LINES, NAMES, NUMBERS, SIGNS, WORDS. */
public final class TokenTest {
    public static void main(String[] args) {
        blanks();
        names();
        numbers();
        words();
        Due.done();
    }

    private static void blanks() {
        Due.reads("", 0);
        Due.reads(" \t\r\n ", 0);
        Due.reads("\tcode\r1\n=\tn\r\n;", 0);
        Due.reads("code 1=n;code 2=n;", 0);
        Due.reads("coding a=1octets;", -1);
        Due.reads("coding a=1 octets;layer l{service s=0{param p:a;}}", 1);
        Due.reads("code\u000b1 = n ;", -1);
        Due.reads("code\n\n\u000b1 = n ;", -3);
        Due.reads("code 1 = N ;", -1);
        Due.reads("code 1 = n_ ;", -1);
        Due.reads("code\r\r1\r=\n5", -2);
        for (String sign : new String[] {"!", "+", "*", "(", "[", ",", ".", "<", "~", "`", "|", "@", "A", "Z", "_"}) {
            Due.reads("\n" + sign, -2);
        }
    }

    private static void names() {
        Due.reads("code 1 = abcdefghijkl ;", 0);
        Due.reads("code 1 = abcdefghijklm ;", -1);
        Due.reads("code 1 = a12345678901 ;", 0);
        Due.reads("code 1 = a123456789012 ;", -1);
        Due.reads("code 1 =\nabcdefghijklm ;", -2);
        Due.reads("code 1 = z9 ;", 0);
        Due.reads("code 1 = 9z ;", -1);
        DescribeText x = Due.with("code 1 = b ; code 2 = a ; code 3 = b ; code 4 = ab ; code 5 = a1 ; code 6 = aa ;");
        int[] numbers = {1, 2, 1, 3, 4, 5};
        for (int i = 0; i < numbers.length; i++) {
            Due.is("code(" + (i + 1) + ")", x.code(i + 1), numbers[i]);
        }
        String[] alike = {"ab", "ba", "a", "aa", "b0", "a9", "z", "z0", "za", "abc", "acb", "bac"};
        StringBuilder codes = new StringBuilder();
        for (int i = 0; i < alike.length; i++) {
            codes.append("code ").append(i).append(" = ").append(alike[i]).append(" ; ");
        }
        DescribeText different = Due.with(codes.toString());
        for (int i = 0; i < alike.length; i++) {
            Due.is("code(" + i + ") of " + alike[i], different.code(i), i + 1);
        }
        DescribeText y = Due.with("code 1 = abcdefghijkl ; code 2 = abcdefghijkm ; code 3 = zzzzzzzzzzzz ; code 4 = z99999999999 ;"
                + " code 5 = a ; code 6 = aaaaaaaaaaaa ; code 7 = zzzzzzzzzzzz ;");
        int[] long12 = {1, 2, 3, 4, 5, 6, 3};
        for (int i = 0; i < long12.length; i++) {
            Due.is("code(" + (i + 1) + ") of long ones", y.code(i + 1), long12[i]);
        }
    }

    private static void numbers() {
        Due.reads("code 999999 = n ;", 0);
        Due.reads("code 000000 = n ;", 0);
        Due.reads("code 0000000 = n ;", -1);
        Due.reads("code 1000000 = n ;", -1);
        Due.reads("code\n1000000 = n ;", -2);
        Due.reads("code 1a = n ;", -1);
        Due.reads("coding a = 000004 octets ;", 0);
        Due.is("code(7) by 007", Due.with("code 007 = n ;").code(7), 1);
        Due.is("code(999999)", Due.with("code 999999 = n ;").code(999999), 1);
    }

    private static void words() {
        String[] words = {"coding", "octets", "signed", "scale", "plus", "layer", "of", "service", "param", "when", "times",
            "code", "variant", "job", "put", "get", "add", "sub", "mul", "dup", "swap", "drop", "send", "while"};
        for (String word : words) {
            Due.reads("\ncode 1 = " + word + " ;", -2);
            Due.reads("\ncoding " + word + " = 1 octets ;", -2);
            Due.reads("code 1 = " + word + "x ;", 0);
            Due.reads("code 1 = " + word + "1 ;", 0);
            Due.reads("code 1 = x" + word + " ;", 0);
        }
        for (String word : new String[] {"if", "end", "layers", "codin", "read", "octet", "sign", "ring"}) {
            Due.reads("code 1 = " + word + " ;", 0);
        }
    }
}
