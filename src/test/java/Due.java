/** What all tests of the project use: texts into an object, rows out of it, and the count of wrong answers. */
final class Due {
    private static int wrong = 0;
    private static String sentence = "";

    private Due() {
    }

    /** The document's words that the answers behind this are due by; a wrong answer is told with them. */
    static void sentence(String words) {
        sentence = words;
    }

    static void is(String call, long got, long want) {
        if (got != want) {
            tellWrong(call, String.valueOf(got), String.valueOf(want));
        }
    }

    static void is(String call, String got, String want) {
        if (!got.equals(want)) {
            tellWrong(call, String.valueOf(got), String.valueOf(want));
        }
    }

    private static void tellWrong(String call, String got, String want) {
        wrong++;
        String by = sentence.isEmpty() ? "" : " (\"" + sentence + "\")";
        System.out.println(call + " answered " + got + ", due is " + want + by);
    }

    static void done() {
        if (wrong != 0) {
            System.out.println(wrong + " answers are not as due");
            System.exit(1);
        }
    }

    /** Lays a text into an object, four octets a call, the last call filled up with 0. */
    static void sign(DescribeText x, String text) {
        for (int i = 0; i < text.length(); i += 4) {
            int c = 0;
            for (int k = i; k < i + 4; k++) {
                c = c << 8 | (k < text.length() ? text.charAt(k) & 255 : 0);
            }
            x.sign(c);
        }
    }

    static int read(DescribeText x, String text) {
        sign(x, text);
        return x.read();
    }

    /** A new object that has a text IN HAND. */
    static DescribeText with(String text) {
        DescribeText x = new DescribeText();
        int answer = read(x, text);
        if (answer < 0) {
            is("read() of " + text, answer, 0);
        }
        return x;
    }

    /** What a new object answers to a text. */
    static void reads(String text, int want) {
        DescribeText x = new DescribeText();
        is("read() of [" + text + "]", read(x, text), want);
    }

    static void tell(DescribeText x, int... octets) {
        for (int octet : octets) {
            x.octet((byte) octet);
        }
    }

    static String sent(DescribeText x) {
        StringBuilder row = new StringBuilder();
        for (int i = 0; i < 1000; i++) {
            try {
                int octet = x.out(i) & 255;
                row.append(i == 0 ? "" : " ").append(octet);
            } catch (ArrayIndexOutOfBoundsException e) {
                return row.toString();
            }
        }
        return row.toString();
    }

    static boolean outThrows(DescribeText x, int i) {
        try {
            x.out(i);
            return false;
        } catch (ArrayIndexOutOfBoundsException e) {
            return true;
        }
    }

    /** The LINES, each with a 10 behind it but the last. */
    static String lines(String... lines) {
        return String.join("\n", lines);
    }

    static String row(int first, int count, int rest) {
        StringBuilder row = new StringBuilder();
        row.append(first);
        for (int i = 1; i < count; i++) {
            row.append(' ').append(rest);
        }
        return row.toString();
    }

    /** A text that stands several times, # in it being the number of each. */
    static String many(String part, int count) {
        StringBuilder all = new StringBuilder();
        for (int i = 0; i < count; i++) {
            all.append(part.replace("#", String.valueOf(i)));
        }
        return all.toString();
    }
}
