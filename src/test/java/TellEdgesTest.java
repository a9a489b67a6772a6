/** The edges of service, parameter, variant and code (promises 4, 5, 10 and 14). */
public final class TellEdgesTest {
    private static final int[] FAR = {Integer.MIN_VALUE, Integer.MIN_VALUE + 1, -65536, 65536, Integer.MAX_VALUE};

    public static void main(String[] args) {
        serviceNumbers();
        serviceWhats();
        howManyParameters();
        inUse();
        ofChains();
        parameterNumbers();
        parameterWhats();
        variantWithZ();
        firstLayerThatNoVariantNames();
        noneIsInUse();
        codes();
        Due.done();
    }

    private static void serviceNumbers() {
        Due.sentence("-1 there is none, -2 no such what (service)");
        for (int count = 0; count <= 16; count++) {
            DescribeText x = Due.with("layer l {" + Due.many("service s# = # { }", count) + "}");
            for (int i = -1; i <= 18; i++) {
                boolean known = i >= 1 && i <= count;
                for (int what = -1; what <= 5; what++) {
                    int[] told = {1 + i, i - 1, 0, 1, i};
                    boolean has = what >= 0 && what <= 4;
                    Due.is("service(" + i + ", " + what + ") of " + count, x.service(i, what), known ? has ? told[what] : -2 : -1);
                }
            }
            for (int far : FAR) {
                Due.is("service(" + far + ", 0)", x.service(far, 0), -1);
                Due.is("service(1, " + far + ")", x.service(1, far), count == 0 ? -1 : -2);
            }
        }
    }

    private static void serviceWhats() {
        Due.sentence("what = 0 its NAME's number, 1 its Z, 2 how many parameters, 3 its layer, 4 the service that the layer IN USE has by that NAME");
        DescribeText x = Due.with("code 1 = n ; coding c = 1 octets ; layer a { service s = 0 { } } layer b { service t = 191 { param p : c ; } service s = 190 { } }");
        int[][] want = {{4, 0, 0, 1, 1}, {6, 191, 1, 2, 0}, {4, 190, 0, 2, 1}};
        for (int i = 0; i < want.length; i++) {
            for (int what = 0; what < 5; what++) {
                Due.is("service(" + (i + 1) + ", " + what + ")", x.service(i + 1, what), want[i][what]);
            }
        }
    }

    private static void howManyParameters() {
        Due.sentence("2 how many parameters");
        for (int count = 0; count <= 8; count++) {
            DescribeText x = Due.with("coding c = 1 octets ; layer l { service s = 1 {" + Due.many("param p# : c ;", count) + "} service t = 1 { param p : c ; } }");
            Due.is("service(1, 2)", x.service(1, 2), count);
            Due.is("service(2, 2)", x.service(2, 2), 1);
        }
    }

    private static void inUse() {
        Due.sentence("its own first one, otherwise that of the layer that it is OF, and so on; 0 for none");
        DescribeText x = Due.with("layer a { service s = 1 { } service t = 1 { } } layer b of a { service s = 1 { } service u = 1 { } } layer c { service u = 1 { } }"
                + " layer d of c { } variant a = 1 ; variant b = 2 ; variant c = 3 ; variant d = 4 ;");
        // services: 1 a.s, 2 a.t, 3 b.s, 4 b.u, 5 c.u
        int[][] want = {{1, 2, 1, 0, 0}, {3, 2, 3, 4, 4}, {0, 0, 0, 5, 5}, {0, 0, 0, 5, 5}, {0, 0, 0, 0, 0}};
        for (int layer = 1; layer <= 5; layer++) {
            Due.is("variant(" + layer + ")", x.variant(layer), layer == 5 ? 0 : layer);
            for (int i = 1; i <= 5; i++) {
                Due.is("service(" + i + ", 4) with layer " + layer, x.service(i, 4), want[layer - 1][i - 1]);
            }
        }
    }

    /** Layers OF one another, the service lying in the last one. */
    private static void ofChains() {
        Due.sentence("otherwise that of the layer that it is OF, and so on");
        for (int length = 1; length <= 6; length++) {
            StringBuilder down = new StringBuilder();
            StringBuilder up = new StringBuilder();
            for (int i = 1; i <= length; i++) {
                String of = i == length ? " { service s = 1 { } }" : " of l" + (i + 1) + " { }";
                down.append("layer l").append(i).append(of);
                up.insert(0, "layer l" + i + of);
            }
            DescribeText x = Due.with(down.toString());
            Due.is("service(1, 4) through " + length, x.service(1, 4), 1);
            DescribeText y = Due.with(up + "variant l1 = 7 ;");
            Due.is("variant(7)", y.variant(7), length);
            Due.is("service(1, 4) through " + length + " upwards", y.service(1, 4), 1);
            Due.is("layer of service 1", y.service(1, 3), 1);
        }
    }

    private static void parameterNumbers() {
        Due.sentence("-1, -2 likewise (parameter)");
        for (int count = 0; count <= 8; count++) {
            DescribeText x = Due.with("coding c = 1 octets ; layer l { service s = 1 {" + Due.many("param p# : c ;", count) + "} service t = 1 { param q : c ; } }");
            for (int i = -1; i <= 10; i++) {
                boolean known = i >= 1 && i <= count;
                for (int what = -1; what <= 5; what++) {
                    int[] told = {i == 1 ? 4 : 3 + i, 1, 0, 0, 0};
                    boolean has = what >= 0 && what <= 4;
                    Due.is("parameter(1, " + i + ", " + what + ") of " + count, x.parameter(1, i, what), known ? has ? told[what] : -2 : -1);
                    Due.is("parameter(0, " + i + ", " + what + ")", x.parameter(0, i, what), -1);
                    Due.is("parameter(3, " + i + ", " + what + ")", x.parameter(3, i, what), -1);
                    Due.is("parameter(2, 2, " + what + ")", x.parameter(2, 2, what), -1);
                }
            }
            for (int far : FAR) {
                Due.is("parameter(" + far + ", 1, 0)", x.parameter(far, 1, 0), -1);
                Due.is("parameter(2, " + far + ", 0)", x.parameter(2, far, 0), -1);
                Due.is("parameter(2, 1, " + far + ")", x.parameter(2, 1, far), -2);
                Due.is("parameter(" + far + ", 1, " + far + ")", x.parameter(far, 1, far), -1);
            }
        }
    }

    private static void parameterWhats() {
        Due.sentence("2 1 with when, 2 with times, otherwise 0, 3 which earlier one (0 for none), 4 the Z behind when (0 without)");
        DescribeText x = Due.with("coding b = 1 octets ; coding c = 1 octets ; layer l { service s = 1 { param a : b ; param d : c when a = 999999 ;"
                + " param e : b when d = 0 ; param f : c times a ; param g : c times f ; param h : b when g = 1 ; param i : b ; param j : c times i ; } }");
        int[][] want = {{5, 1, 0, 0, 0}, {6, 2, 1, 1, 999999}, {7, 1, 1, 2, 0}, {8, 2, 2, 1, 0}, {9, 2, 2, 4, 0}, {10, 1, 1, 5, 1}, {11, 1, 0, 0, 0}, {12, 2, 2, 7, 0}};
        for (int i = 0; i < want.length; i++) {
            for (int what = 0; what < 5; what++) {
                Due.is("parameter(1, " + (i + 1) + ", " + what + ")", x.parameter(1, i + 1, what), want[i][what]);
            }
        }
    }

    private static void variantWithZ() {
        Due.sentence("The layer of the variant with that Z: it is IN USE");
        DescribeText x = Due.with(Due.many("layer l# { service s = # { } }", 6) + "variant l0 = 0 ; variant l5 = 999999 ; variant l3 = 7 ; variant l3 = 8 ; variant l1 = 100 ; variant l2 = 1 ;");
        int[][] want = {{0, 1}, {999999, 6}, {7, 4}, {8, 4}, {100, 2}, {1, 3}, {-1, 5}, {2, 5}, {6, 5}, {9, 5}, {99, 5}, {101, 5}, {999998, 5}, {1000000, 5}, {-7, 5},
            {Integer.MAX_VALUE, 5}, {Integer.MIN_VALUE, 5}};
        for (int[] one : want) {
            Due.is("variant(" + one[0] + ")", x.variant(one[0]), one[1]);
            Due.is("service(1, 4) then", x.service(1, 4), one[1]);
        }
    }

    private static void firstLayerThatNoVariantNames() {
        Due.sentence("the first layer that no variant names, if none has that Z");
        String layers = Due.many("layer l# { service s = # { } }", 6);
        StringBuilder variants = new StringBuilder();
        for (int named = 0; named <= 6; named++) {
            DescribeText x = Due.with(layers + variants);
            Due.is("variant(99) with " + named + " named", x.variant(99), named == 6 ? 0 : named + 1);
            Due.is("service(1, 4) then", x.service(1, 4), named == 6 ? 0 : named + 1);
            if (named > 0) {
                Due.is("variant(0)", x.variant(0), 1);
                Due.is("variant(" + (named - 1) + ")", x.variant(named - 1), named);
            }
            variants.append("variant l").append(named).append(" = ").append(named).append(" ; ");
        }
        Due.is("only the last one is not named", Due.with("variant b = 1 ; variant a = 2 ; layer a { } layer b { } layer c { }").variant(3), 3);
        Due.is("only the first one is not named", Due.with("variant b = 1 ; variant c = 2 ; layer a { } layer b { } layer c { }").variant(3), 1);
        Due.is("without variants", Due.with("layer a { } layer b { }").variant(0), 1);
    }

    private static void noneIsInUse() {
        Due.sentence("0 if there is none: none is. -3 nothing is IN HAND");
        DescribeText x = new DescribeText();
        for (int answer : new int[] {Integer.MIN_VALUE, -1, 0, 1, Integer.MAX_VALUE}) {
            Due.is("variant(" + answer + ") with nothing IN HAND", x.variant(answer), -3);
        }
        Due.is("a FAULT", Due.read(x, "layer l { } }"), -1);
        Due.is("variant(0) with nothing IN HAND", x.variant(0), -3);
        Due.is("a text without layers", Due.read(x, "code 1 = n ;"), 0);
        Due.is("variant(0) without layers", x.variant(0), 0);
        Due.is("a text", Due.read(x, "layer a { service s = 1 { } } layer b of a { } variant a = 1 ; variant b = 2 ;"), 1);
        Due.is("service(1, 4) at first", x.service(1, 4), 1);
        Due.is("variant(0)", x.variant(0), 0);
        Due.is("service(1, 4): none is IN USE", x.service(1, 4), 0);
        Due.is("variant(2)", x.variant(2), 2);
        Due.is("service(1, 4) again", x.service(1, 4), 1);
    }

    private static void codes() {
        Due.sentence("The number of the NAME of a code; 0 without one");
        DescribeText x = new DescribeText();
        Due.is("code(1) with nothing IN HAND", x.code(1), 0);
        Due.is("a text", Due.read(x, "layer z { }" + Due.many("code # = n# ;", 10) + "code 999999 = z ; code 100 = n0 ;"), 0);
        for (int i = 0; i < 10; i++) {
            Due.is("code(" + i + ")", x.code(i), i + 2);
        }
        Due.is("code(999999)", x.code(999999), 1);
        Due.is("code(100)", x.code(100), 2);
        for (int none : new int[] {-1, 10, 11, 99, 101, 999998, 1000000, -999999, Integer.MAX_VALUE, Integer.MIN_VALUE, 65536, 1 << 20}) {
            Due.is("code(" + none + ")", x.code(none), 0);
        }
        Due.is("a variant's Z is no code's", Due.with("layer l { } variant l = 5 ; coding c = 1 octets { 6 r ; }").code(5), 0);
        Due.is("a text without codes", x.read(), 0);
        Due.is("code(0) then", x.code(0), 0);
    }
}
