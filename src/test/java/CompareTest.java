/** Promise 13: services without one like them in another EDITION. */
public final class CompareTest {
    private static final String FIRST = "coding c = 2 octets ; coding s = 1 octets signed ; coding f = 2 octets scale 1 / 2 plus 3 ;"
            + " coding t = 1 octets { 1 on ; 0 off ; } layer l { service x = 5 { param a : c ; param b : s when a = 1 ; param d : f times b ; param e : t ; } }";

    public static void main(String[] args) {
        unlike("nothing", FIRST, 0);
        change("service x = 5", "service y = 5", 1);
        change("service x = 5", "service x = 6", 1);
        change("layer l", "layer m", 1);
        change("param a : c", "param a : q", "coding c = 2", "coding q = 2", 0);
        change("param e : t ;", "", 1);
        change("param e : t", "param h : t", 1);
        change("when a = 1", "when a = 2", 1);
        change("when a = 1", "times a", 1);
        change("when a = 1", "", 1);
        change("times b", "times a", 1);
        change("coding c = 2", "coding c = 3", 1);
        change("octets signed", "octets", 1);
        change("1 / 2 plus 3", "2 / 4 plus 3", 1);
        change("1 / 2 plus 3", "1 / 2 plus - 3", 1);
        change("1 / 2 plus 3", "3 / 2 plus 3", 1);
        change("1 / 2 plus 3", "1 / 3 plus 3", 1);
        change("1 / 2 plus 3", "01 / 2 plus 000003", 0);
        change("1 on ; 0 off", "0 off ; 1 on", 1);
        change("1 on ; 0 off", "1 on ; 2 off", 1);
        change("1 on ; 0 off", "2 on ; 0 off", 1);
        change("1 on ; 0 off", "1 yes ; 0 off", 1);
        change("{ 1 on ; 0 off ; }", ";", 1);
        change("1 on ; 0 off", "1 on ; 0 no", 1);
        change("1 on ; 0 off ;", "1 on ;", 1);
        change("coding c = 2 octets", "coding c = 2 octets scale 1 / 1 plus 0", 1);
        change("param e : t ;", "param e : t ; param h : t ;", 1);
        change("param a : c ; param b : s when a = 1", "param b : s ; param a : c", 1);
        // Other NAME numbers, other numbers of things, other layers: all the same.
        unlike("a code before", "code 7 = zz ; coding zz = 4 octets ; layer zz { } " + FIRST.replace("layer l", "layer l of zz"), 0);
        unlike("one service more", FIRST + " layer m { service x = 5 { } service y = 6 { } }", 2);
        editions();
        Due.done();
    }

    private static void change(String from, String to, int want) {
        unlike(from + " to " + to, FIRST.replace(from, to), want);
    }

    private static void change(String from, String to, String from2, String to2, int want) {
        unlike(from + " to " + to, FIRST.replace(from, to).replace(from2, to2), want);
    }

    private static void unlike(String what, String text, int want) {
        DescribeText x = Due.with(FIRST);
        if (Due.read(x, text) < 0) {
            Due.is("read() of " + text, -1, 0);
        }
        Due.is("compare(1) with " + what, x.compare(1), want);
        Due.is("compare(2) with " + what, x.compare(2), 0);
        Due.is("compare(3) with " + what, x.compare(3), -1);
    }

    private static void editions() {
        DescribeText x = new DescribeText();
        Due.is("compare(1) of a new object", x.compare(1), -1);
        for (int i = 1; i <= 6; i++) {
            Due.is("read()", Due.read(x, "layer l { " + Due.many("service s# = # { } ", i) + "}"), i);
            Due.is("a text with a FAULT is no EDITION", Due.read(x, "layer"), -1);
            for (int k = 1; k <= 7; k++) {
                Due.is("compare(" + k + ") with " + i + " EDITIONS", x.compare(k), k <= i && k <= 4 ? i - k : -1);
            }
        }
        for (int k : new int[] {0, -1, 5, Integer.MAX_VALUE, Integer.MIN_VALUE}) {
            Due.is("compare(" + k + ")", x.compare(k), -1);
        }
        Due.is("read() of a smaller one", Due.read(x, "layer l { service s0 = 0 { } }"), 1);
        Due.is("compare(4) of a smaller one", x.compare(4), 0);
    }
}
