/** Promise 3: what a text answers, the grammar, its limits, and the FAULT. */
public final class ReadTest {
    public static void main(String[] args) {
        answers();
        grammar();
        everyTokenIsWanted();
        bounds();
        limits();
        firstFault();
        wrongNames();
        wrongNumbers();
        whatStays();
        Due.done();
    }

    private static void answers() {
        Due.reads("layer a { } layer b { }", 0);
        Due.reads("layer a { service s = 1 { } service t = 1 { } } layer b { service s = 1 { } }", 3);
        Due.reads("layer a { " + Due.many("service s# = # { } ", 16) + "}", 16);
    }

    private static void grammar() {
        Due.reads("coding a = 1 octets signed ; coding b = 2 octets scale - 3 / 4 plus - 5 ; coding c = 4 octets { }", 0);
        Due.reads("coding b = 2 octets scale 0 / 1 plus 0 ;", 0);
        Due.reads("coding b = 2 octets scale -3/4 plus -5;", 0);
        Due.reads("coding a = 1 octets signed scale 1 / 1 plus 0 ;", -1);
        Due.reads("coding a = 1 octets { 1 x ; } ;", -1);
        Due.reads("coding a = 1 octets { x 1 ; }", -1);
        Due.reads("coding a = 1 octets { - 1 x ; }", -1);
        Due.reads("coding a = - 1 octets ;", -1);
        Due.reads("coding a = 1 octets scale - - 1 / 1 plus 0 ;", -1);
        Due.reads("coding a = 1 octets scale 1 / - 1 plus 0 ;", -1);
        Due.reads("layer a of b { } layer b { }", 0);
        Due.reads("layer a { } ;", -1);
        Due.reads("layer a { layer b { } }", -1);
        Due.reads("service s = 1 { }", -1);
        Due.reads("variant a = 5 ; layer a { }", 0);
        Due.reads("code 5 = x ; code 6 = x ;", 0);
        Due.reads("code - 5 = x ;", -1);
        Due.reads("job j { }", 0);
        Due.reads("job j { put - 5 ; put 5 ; add ; sub ; mul ; dup ; swap ; drop ; send ; while { } }", 0);
        Due.reads("job j { while { while { while { put 1 ; } } while { } } }", 0);
        Due.reads("job j { while { } ; }", -1);
        Due.reads("job j { put ; }", -1);
        Due.reads("job j { add }", -1);
        Due.reads("job j { } }", -1);
        Due.reads("}", -1);
    }

    /** Leaves out one token at a time, each on a line of its own. */
    private static void everyTokenIsWanted() {
        leaveOut("coding a = 1 octets ;");
        leaveOut("coding a = 1 octets scale 1 / 2 plus 3 ;");
        leaveOut("coding a = 1 octets { 5 x ; }");
        leaveOut("code 1 = x ;");
        leaveOut("variant x = 1 ;");
        leaveOut("job x { put 5 ; }");
        leaveOut("job x { while { } }");
        leaveOut("layer x { }");
        leaveOut("layer x { service y = 5 { param z : u when v = 5 ; } }");
        leaveOut("layer x { service y = 5 { param z : u times v ; } }");
        leaveOut("layer x { service y = 5 { param z : u ; } }");
        Due.reads("job x { get\ny\n; }", -3);
    }

    /** The fault is the next token, or the text's end behind the last one and where a } is wanting. */
    private static void leaveOut(String text) {
        String[] tokens = text.split(" ");
        for (int gone = 0; gone < tokens.length; gone++) {
            StringBuilder rest = new StringBuilder();
            for (int i = 0; i < tokens.length; i++) {
                rest.append(i == gone ? "" : tokens[i]).append('\n');
            }
            Due.reads(rest.toString(), tokens[gone].equals("}") ? -tokens.length - 1 : -gone - 2);
        }
    }

    private static void bounds() {
        for (int z = 1; z <= 4; z++) {
            Due.reads("coding a = " + z + " octets ;", 0);
            Due.reads("coding a = " + z + " octets { }", 0);
        }
        Due.reads("coding a =\n0\noctets ;", -2);
        Due.reads("coding a =\n5\noctets ;", -2);
        Due.reads("coding a =\n5\noctets { }", -2);
        Due.reads("coding a =\n5\n\u0001", -2);
        Due.reads("coding a = 1 octets scale 1 /\n0\nplus 1 ;", -2);
        Due.reads("coding a = 1 octets scale 1 / 1 plus 1 ;", 0);
        Due.reads("coding a = 1 octets scale 999999 / 999999 plus 999999 ;", 0);
        Due.reads("layer l { service s = 191 { } }", 1);
        Due.reads("layer l { service s = 0 { } }", 1);
        Due.reads("layer l { service s =\n192\n{ } }", -2);
        Due.reads("layer l { service s =\n999999\n{ } }", -2);
        Due.reads("variant l = 999999 ; layer l { }", 0);
    }

    private static void limits() {
        String table = Due.many("# r ; ", 8);
        Due.reads("coding a = 1 octets { " + table + "}", 0);
        Due.reads("coding a = 1 octets { " + table + "\n8\nr ; }", -2);
        Due.reads(Due.many("coding c# = 1 octets ; ", 12), 0);
        Due.reads(Due.many("coding c# = 1 octets ; ", 11) + "coding t = 1 octets { }", 0);
        Due.reads(Due.many("coding c# = 1 octets ; ", 12) + "\ncoding\nt = 1 octets { }", -2);
        Due.reads(Due.many("layer l# { } ", 6), 0);
        Due.reads(Due.many("layer l# { } ", 6) + "\nlayer\nx { }", -2);
        Due.reads("layer a { " + Due.many("service s# = 1 { } ", 16) + "\nservice\nx = 1 { } }", -2);
        Due.reads("layer a { " + Due.many("service s# = 1 { } ", 9) + "} layer b { " + Due.many("service s# = 1 { } ", 7) + "}", 16);
        Due.reads("layer a { " + Due.many("service s# = 1 { } ", 9) + "} layer b { " + Due.many("service s# = 1 { } ", 7)
                + "}\nlayer c {\nservice\nx = 1 { } }", -3);
        String parameters = Due.many("param p# : a ; ", 8);
        Due.reads("coding a = 1 octets ; layer l { service s = 1 { " + parameters + "} service t = 1 { " + parameters + "} }", 2);
        Due.reads("coding a = 1 octets ; layer l { service s = 1 { " + parameters + "\nparam\nx : a ; } }", -2);
        Due.reads(Due.many("code # = x ; ", 12), 0);
        Due.reads(Due.many("code # = x ; ", 12) + "\ncode\n12 = x ;", -2);
        Due.reads("layer l { } " + Due.many("variant l = # ; ", 6), 0);
        Due.reads("layer l { } " + Due.many("variant l = # ; ", 6) + "\nvariant\nl = 6 ;", -2);
        Due.reads(Due.many("job j# { } ", 4), 0);
        Due.reads(Due.many("job j# { } ", 4) + "\njob\nx { }", -2);
        Due.reads("job a { " + Due.many("add ; ", 40) + "} job b { " + Due.many("add ; ", 40) + "}", 0);
        Due.reads("job a { " + Due.many("add ; ", 40) + "\nadd\n; }", -2);
        Due.reads("job a { while { " + Due.many("add ; ", 39) + "} }", 0);
        Due.reads("job a { while { " + Due.many("add ; ", 39) + "\nadd\n; } }", -2);
        Due.reads("job a { while { " + Due.many("add ; ", 39) + "}\nadd\n; }", -2);
        Due.reads("job a { " + Due.many("while { } ", 40) + "}", 0);
        Due.reads("job a { " + Due.many("while { } ", 40) + "\nwhile\n{ } }", -2);
        Due.reads("job a { while { while { while {\nwhile\n{ } } } } }", -2);
        Due.reads("job a { while { while { while { } while { } } while { while { } } } while { while { while { } } } }", 0);
    }

    private static void firstFault() {
        Due.reads("layer a {", -1);
        Due.reads("layer a {\n", -2);
        Due.reads("layer a {\n\n\n", -4);
        Due.reads("layer a { }\n\n\n}", -4);
        Due.reads("layer a { }\nlayer\n\n5", -4);
        Due.reads("layer\n5\n\u0001", -2);
        Due.reads("layer\n\u0001\n5", -2);
        Due.reads("coding a = 1 octets ;\ncoding a = 1 octets ;\n\u0001", -3);
        Due.reads("coding a = 1 octets ;\ncoding a = 1 octets ;\nlayer", -3);
        Due.reads("coding a = 1 octets ;\ncoding a = 1 octets ;\n\n5", -4);
    }

    private static void wrongNames() {
        Due.reads("coding a = 1 octets ;\ncoding\na = 2 octets ;", -3);
        Due.reads("layer a { }\nlayer\na { }", -3);
        Due.reads("job a { }\njob\na { }", -3);
        Due.reads("coding a = 1 octets ; layer a { service a = 1 { param a : a ; } } job a { } code 1 = a ; variant a = 1 ;", 1);
        Due.reads("layer a { service s = 1 { }\nservice\ns = 2 { } }", -3);
        Due.reads("layer a { service s = 1 { } } layer b { service s = 1 { } }", 2);
        Due.reads("coding a = 1 octets ; layer l { service s = 1 { param p : a ;\nparam\np : a ; } }", -3);
        Due.reads("coding a = 1 octets ; layer l { service s = 1 { param p : a ; } service t = 1 { param p : a ; } }", 2);
        Due.reads("coding a = 1 octets { 1 x ; 2 x ; } coding b = 1 octets { 1 x ; }", 0);
        Due.reads("layer l { service s = 1 { param p :\na ; } } coding b = 1 octets ;", -2);
        Due.reads("layer l { service s = 1 { param p : a ; } } coding a = 1 octets ;", 1);
        Due.reads("layer a of\nb { }", -2);
        Due.reads("variant\na = 1 ;", -2);
        String service = "coding a = 1 octets ; layer l { service s = 1 { param p : a ; param q : a ";
        Due.reads(service + "when p = 1 ; } }", 1);
        Due.reads(service + "times p ; } }", 1);
        Due.reads(service + "when\nq = 1 ; } }", -2);
        Due.reads(service + "times\nq ; } }", -2);
        Due.reads(service + "when\nr = 1 ; param r : a ; } }", -2);
        Due.reads(service + "; } service t = 1 { param r : a times\np ; } }", -2);
        String got = "coding a = 1 octets ; layer l { service s = 1 { param p : a ; } } layer m { service s = 1 { param q : a ; } } ";
        Due.reads(got + "job j { get s p ; }", 2);
        Due.reads("job j { get s p ; } " + got, 2);
        Due.reads(got + "job j { get s\nq ; }", -2);
        Due.reads(got + "job j { get\nt\np ; }", -2);
        Due.reads(got + "job j { while { while { get s\nr ; } } }", -2);
        Due.reads("layer l { service s = 1 { param p :\na ; } }\ncoding b = 1 octets ; coding b = 1 octets ;", -2);
        Due.reads("variant\nx = 1 ; job j { }\njob j { }", -2);
        Due.reads("job j { }\njob j { }\nvariant x = 1 ;", -2);
    }

    private static void wrongNumbers() {
        Due.reads("coding a = 1 octets { 1 x ;\n01 y ; }", -2);
        Due.reads("coding a = 1 octets { 1 x ; } coding b = 1 octets { 1 x ; }", 0);
        Due.reads("code 5 = x ; code\n5\n= y ;", -2);
        Due.reads("layer l { } variant l = 5 ; variant l =\n5 ;", -2);
        Due.reads("layer l { } variant l = 5 ; variant l = 6 ; code 5 = x ;", 0);
        Due.reads("layer l { } variant l = 5 ; variant\nx =\n5 ;", -2);
        Due.reads("layer l { service s = 1 { } service t = 1 { } }", 2);
    }

    private static void whatStays() {
        DescribeText x = Due.with("coding a = 1 octets ; layer l { } layer m { service s = 5 { param p : a ; } } variant m = 7 ; code 3 = n ;");
        Due.is("variant(7)", x.variant(7), 2);
        Due.tell(x, 69, 9);
        Due.is("encode(1, 1, 4)", x.encode(1, 1, 4), 1);
        Due.is("read() with a fault", Due.read(x, "layer z {"), -1);
        Due.is("service(1, 4) by the layer that was IN USE", x.service(1, 4), 1);
        Due.is("code(3)", x.code(3), 6);
        Due.is("decode(1, 1, 0)", x.decode(1, 1, 0), 9);
        Due.is("SENT stays", Due.sent(x), "69 4");
        Due.is("read() once more", Due.read(x, "layer k { } coding b = 2 octets ; layer m { service s = 5 { param p : b ; } }"), 1);
        Due.is("SENT stays with another text", Due.sent(x), "69 4");
        Due.is("the first layer is IN USE", x.service(1, 4), 0);
        Due.is("code(3) is gone", x.code(3), 0);
        Due.tell(x, 1);
        Due.is("the ANSWER stays and goes on", x.decode(1, 1, 0), 9 * 256 + 1);
        Due.is("encode(1, 1, 0): RAWS are new", x.encode(1, 1, 0), 1);
        Due.is("SENT", Due.sent(x), "69 0 0");
        Due.is("read() of no text", x.read(), 0);
        Due.is("service(1, 0) of no text", x.service(1, 0), -1);
    }
}
