/** Promise 2: four octets more, the highest first, no 0, nothing behind 2000. */
public final class SignTest {
    public static void main(String[] args) {
        order();
        zeros();
        end();
        wrongOctets();
        Due.done();
    }

    private static void order() {
        DescribeText x = new DescribeText();
        int[] signs = {'c' << 24 | 'o' << 16 | 'd' << 8 | 'e', ' ' << 24 | '7' << 16 | '=' << 8 | 'n', ';' << 24};
        for (int c : signs) {
            x.sign(c);
        }
        Due.is("read() of code 7=n;", x.read(), 0);
        Due.is("code(7)", x.code(7), 1);
    }

    private static void zeros() {
        DescribeText x = new DescribeText();
        x.sign('c');
        x.sign('o' << 24 | 'd');
        x.sign(0);
        x.sign('e' << 16);
        x.sign(' ' << 8 | '7');
        x.sign('=' << 24 | 'n' << 8);
        x.sign(';' << 8);
        Due.is("read() with zeros between", x.read(), 0);
        Due.is("code(7)", x.code(7), 1);
    }

    private static void end() {
        String code = "code 1 = n ;";
        String blanks = Due.many(" ", 2000 - code.length());
        Due.reads(blanks + code, 0);
        DescribeText full = new DescribeText();
        Due.sign(full, blanks + code);
        Due.sign(full, "\n\n}");
        Due.is("read() with a } behind 2000", full.read(), 0);
        Due.is("code(1)", full.code(1), 1);
        Due.is("the text is empty then", Due.read(full, "code 2 = m ;"), 0);
        Due.is("code(2)", full.code(2), 1);
        // The ; is octet 2001; the end's line counts octet 2000, and none behind it.
        Due.reads(" " + blanks + code, -1);
        Due.reads(Due.many("\n", 2000 - 4) + "code;", -1997);
        Due.reads("layer" + Due.many("\n", 2030), -1996);
        DescribeText split = new DescribeText();
        Due.sign(split, Due.many(" ", 1996) + "co");
        split.sign('d' << 24 | 'e' << 16 | '\n' << 8 | '\n');
        Due.is("one sign lies on both sides of 2000", split.read(), -1);
    }

    private static void wrongOctets() {
        Due.reads("\u00ff", -1);
        Due.reads("\n\u0080", -2);
        Due.reads("\u0001", -1);
        DescribeText x = new DescribeText();
        x.sign(-1);
        Due.is("read() of four 255", x.read(), -1);
    }
}
