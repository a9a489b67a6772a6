/** The edges of what NAMES mean and of what is numbered from 1 on. */
public final class MeaningEdgesTest {
    public static void main(String[] args) {
        earlierOrLater();
        firstServiceOfAll();
        nameNumbers();
        thingNumbers();
        jobNumbers();
        Due.done();
    }

    private static void earlierOrLater() {
        Due.sentence("A NAME means the first thing of its kind in the text that has it (earlier or later)");
        DescribeText x = Due.with("job j { get s a ; send ; get s b ; send ; } variant m = 7 ; layer l of m { }"
                + " layer m { service s = 5 { param a : d ; param b : c ; } } coding c = 1 octets signed ; coding d = 2 octets ;");
        Due.is("the coding of a is a later one", x.parameter(1, 1, 1), 2);
        Due.is("the coding of b is a later one", x.parameter(1, 2, 1), 1);
        Due.is("the variant's layer is a later one", x.variant(7), 2);
        Due.is("variant(0): the first layer", x.variant(0), 1);
        Due.is("l is OF a later one", x.service(1, 4), 1);
        Due.tell(x, 69, 1, 2, 255);
        Due.is("job(1, 9)", x.job(1, 9), 1);
        Due.is("get of a later service", Due.sent(x), "2 255");
        DescribeText y = Due.with("coding c = 1 octets signed ; layer m { service s = 5 { param a : c ; } } layer l of m { } variant m = 7 ; job j { get s a ; }");
        Due.is("the coding is an earlier one", y.parameter(1, 1, 1), 1);
        Due.is("the layer is an earlier one", y.variant(7), 1);
    }

    private static void firstServiceOfAll() {
        Due.sentence("a service the first one of all");
        String first = "layer l { service s = 5 { param a : c ; } } ";
        String second = "layer m { service s = 6 { param a : c ; param b : c ; } } ";
        String job = "coding c = 1 octets ; job j { get s a ; send ; } ";
        for (int order = 0; order < 2; order++) {
            DescribeText x = Due.with(job + (order == 0 ? first + second : second + first) + "variant l = 1 ; variant m = 2 ;");
            int z = order == 0 ? 5 : 6;
            for (int variant = 1; variant <= 2; variant++) {
                Due.is("variant()", x.variant(variant) > 0 ? 1 : 0, 1);
                Due.is("job(1, 2)", x.job(1, 2), 1);
                Due.is("SENT without an ANSWER", Due.sent(x), "0");
            }
            Due.tell(x, 64 + z, 99);
            Due.is("job(1, 2)", x.job(1, 2), 1);
            Due.is("SENT by the first one's ANSWER", Due.sent(x), "99");
            DescribeText other = Due.with(job + (order == 0 ? first + second : second + first));
            Due.tell(other, 64 + 11 - z, 99);
            Due.is("job(1, 2)", other.job(1, 2), 1);
            Due.is("SENT by the other one's ANSWER", Due.sent(other), "0");
        }
        Due.reads("coding c = 1 octets ; " + first + second + "job j { get s\nb ; }", -2);
        Due.reads("coding c = 1 octets ; " + second + first + "job j { get s\nb ; }", 2);
    }

    private static void nameNumbers() {
        Due.sentence("NAMES (no WORDS) have numbers from 1 on as they first stand in the text");
        // Every place of a NAME, and each NAME's number told by a code that names it again at the end.
        String text = "coding a = 1 octets { 1 b ; 2 c ; } layer d of e { service f = 1 { param g : a ; param h : i when g = 1 ; param k : a times h ; } }"
                + " layer e { } variant d = 1 ; job l { get f g ; } coding i = 1 octets ; code 99 = z ; ";
        String order = "abcdefghiklz";
        for (int i = 0; i < order.length(); i++) {
            DescribeText x = Due.with(text + "code 1 = " + order.charAt(i) + " ; code 2 = y ;");
            Due.is("the number of " + order.charAt(i), x.code(1), i + 1);
            Due.is("the number of a NAME that is new", x.code(2), order.length() + 1);
            Due.is("the number of the NAME before", x.code(99), order.length());
        }
        DescribeText x = Due.with(text);
        Due.is("service(1, 0)", x.service(1, 0), 6);
        Due.is("parameter(1, 1, 0)", x.parameter(1, 1, 0), 7);
        Due.is("parameter(1, 2, 0)", x.parameter(1, 2, 0), 8);
        Due.is("parameter(1, 3, 0)", x.parameter(1, 3, 0), 10);
        DescribeText many = Due.with(manyNames());
        Due.is("the 96th ROW's NAME", many.code(1), 12 + 96);
        Due.is("a NAME behind these", many.code(2), 12 + 97);
        DescribeText other = Due.with("code 1 = b ; code 2 = a ;");
        Due.is("read()", Due.read(other, "code 1 = a ; code 2 = b ;"), 0);
        Due.is("each text has its own numbers: code(1)", other.code(1), 1);
        Due.is("each text has its own numbers: code(2)", other.code(2), 2);
    }

    /** 12 TABLES with 8 ROWS each, all NAMES being different. */
    private static String manyNames() {
        StringBuilder text = new StringBuilder();
        for (int c = 0; c < 12; c++) {
            text.append("coding c").append(c).append("=1 octets{");
            for (int r = 0; r < 8; r++) {
                text.append(r).append(" r").append(c * 8 + r).append(';');
            }
            text.append('}');
        }
        return text.append("code 1=r95;code 2=z;").toString();
    }

    private static void thingNumbers() {
        Due.sentence("Codings, layers, services (of all layers), jobs have numbers from 1 on as they begin, parameters in their service");
        String codings = Due.many("coding c#=1 octets;", 12);
        String services = Due.many("layer l#{service s#=#{param a:c#;param b:c1#;}}", 2);
        DescribeText x = Due.with(codings + services + Due.many("layer m#{}", 3) + "layer n{" + Due.many("service t#=9{}", 14) + "}");
        Due.is("the first coding", x.parameter(1, 1, 1), 1);
        Due.is("the eleventh coding", x.parameter(1, 2, 1), 11);
        Due.is("the second coding", x.parameter(2, 1, 1), 2);
        Due.is("the twelfth coding", x.parameter(2, 2, 1), 12);
        Due.is("the layer of service 1", x.service(1, 3), 1);
        Due.is("the layer of service 2", x.service(2, 3), 2);
        Due.is("the layer of service 3", x.service(3, 3), 6);
        Due.is("the layer of service 16", x.service(16, 3), 6);
        Due.is("service(17, 3)", x.service(17, 3), -1);
        Due.is("service(0, 3)", x.service(0, 3), -1);
        Due.is("service(1, 1)", x.service(1, 1), 0);
        Due.is("service(2, 1)", x.service(2, 1), 1);
        Due.is("service(16, 1)", x.service(16, 1), 9);
        Due.is("parameter(2, 0, 1)", x.parameter(2, 0, 1), -1);
        Due.is("parameter(2, 3, 1)", x.parameter(2, 3, 1), -1);
    }

    private static void jobNumbers() {
        Due.sentence("jobs have numbers from 1 on as they begin");
        DescribeText x = Due.with("job d { put 1 ; send ; } job c { put 2 ; send ; } job b { put 3 ; send ; } job a { put 4 ; send ; }");
        for (int i = 1; i <= 4; i++) {
            Due.is("job(" + i + ", 2)", x.job(i, 2), 1);
            Due.is("SENT by job " + i, Due.sent(x), "" + i);
        }
        Due.is("job(0, 2)", x.job(0, 2), -1);
        Due.is("job(5, 2)", x.job(5, 2), -1);
    }
}
