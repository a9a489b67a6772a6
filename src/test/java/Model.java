import java.math.BigInteger;
import java.util.ArrayList;
import java.util.Arrays;
import java.util.HashMap;
import java.util.List;
import java.util.Map;
import java.util.function.BooleanSupplier;

/**
 * The document once more, in other ways than the class's: tokens are cut as they are wanted, faults are thrown,
 * numbers are of any size, wrong NAMES are looked for in the text's order. Tests compare the class with it.
 */
final class Model {
    static final int THROWS = 1000;
    private static final List<String> WORDS = Arrays.asList(("coding octets signed scale plus layer of service param when times code variant job"
            + " put get add sub mul dup swap drop send while").split(" "));

    private final StringBuilder text = new StringBuilder();
    private final List<Description> editions = new ArrayList<>();
    private final List<Integer> answer = new ArrayList<>();
    private List<Integer> sent = new ArrayList<>();
    private List<Integer> ring = new ArrayList<>();
    private Description hand;

    /** An end with an answer: a fault of a text, or the end of a job. */
    private static final class Stop extends RuntimeException {
        private static final long serialVersionUID = 1;
        private final int number;

        Stop(int number) {
            super(null, null, false, false);
            this.number = number;
        }
    }

    private static final class CodingOf {
        String name;
        int number;
        int octets;
        String form = "";
        long times = 1;
        long over = 1;
        long plus;
        List<Integer> rowNumbers = new ArrayList<>();
        List<String> rowNames = new ArrayList<>();

        String like() {
            return octets + form + rowNumbers + rowNames;
        }
    }

    private static final class LayerOf {
        String name;
        int number;
        String of;
    }

    private static final class ParameterOf {
        String name;
        int number;
        String coding;
        String way = "";
        String earlier;
        int z;
        BigInteger remembered = BigInteger.ZERO;
    }

    private static final class ServiceOf {
        String name;
        int number;
        int z;
        LayerOf layer;
        List<ParameterOf> parameters = new ArrayList<>();

        ParameterOf named(String wanted) {
            return parameters.stream().filter(p -> p.name.equals(wanted)).findFirst().orElse(null);
        }
    }

    private static final class OpOf {
        String word;
        long put;
        String service;
        String parameter;
        List<OpOf> within = new ArrayList<>();
    }

    private static final class JobOf {
        String name;
        List<OpOf> ops;
    }

    private static final class Description {
        List<CodingOf> codings = new ArrayList<>();
        List<LayerOf> layers = new ArrayList<>();
        List<ServiceOf> services = new ArrayList<>();
        List<Integer> codeNumbers = new ArrayList<>();
        List<String> codeNames = new ArrayList<>();
        List<Integer> variantNumbers = new ArrayList<>();
        List<String> variantNames = new ArrayList<>();
        List<JobOf> jobs = new ArrayList<>();
        List<String> names = new ArrayList<>();
        LayerOf inUse;

        CodingOf coding(String name) {
            return codings.stream().filter(c -> c.name.equals(name)).findFirst().orElse(null);
        }

        LayerOf layer(String name) {
            return layers.stream().filter(l -> l.name.equals(name)).findFirst().orElse(null);
        }

        ServiceOf service(String name) {
            return services.stream().filter(s -> s.name.equals(name)).findFirst().orElse(null);
        }

        /** The layers from one on, each OF the next, up to the one that is OF it again; empty if that never comes. */
        List<Integer> ringFrom(LayerOf first) {
            List<Integer> row = new ArrayList<>();
            LayerOf at = first;
            while (at != null && row.size() <= layers.size()) {
                row.add(at.number);
                at = at.of == null ? null : layer(at.of);
                if (at == first) {
                    return row;
                }
            }
            return new ArrayList<>();
        }
    }

    /** Reads a text, or stops with the line of its fault. */
    private final class Parser {
        private final String all = text.toString();
        private final Description d = new Description();
        private final List<BooleanSupplier> right = new ArrayList<>();
        private final List<Integer> rightLines = new ArrayList<>();
        private int at;
        private int line = 1;
        private int opCount;

        Parser() {
            blanks();
        }

        private void blanks() {
            while (at < all.length() && "\t\n\r ".indexOf(all.charAt(at)) >= 0) {
                line += all.charAt(at) == '\n' ? 1 : 0;
                at++;
            }
        }

        private Stop fault() {
            return new Stop(-line);
        }

        /** The token that begins here, "" at the end. */
        private String peek() {
            if (at == all.length()) {
                return "";
            }
            int to = at;
            while (to < all.length() && String.valueOf(all.charAt(to)).matches("[a-z0-9]")) {
                to++;
            }
            String run = all.substring(at, to);
            if (run.isEmpty() && "{};:=/-".indexOf(all.charAt(at)) >= 0) {
                return all.substring(at, at + 1);
            }
            if (run.matches("[a-z][a-z0-9]{0,11}|[0-9]{1,6}")) {
                return run;
            }
            throw fault();
        }

        private boolean isName(String token) {
            return token.matches("[a-z].*") && !WORDS.contains(token);
        }

        private String next() {
            String token = peek();
            at += token.length();
            if (isName(token) && !d.names.contains(token)) {
                d.names.add(token);
            }
            blanks();
            return token;
        }

        private void want(String... tokens) {
            for (String token : tokens) {
                if (!peek().equals(token)) {
                    throw fault();
                }
                next();
            }
        }

        private boolean has(String token) {
            if (peek().equals(token)) {
                next();
                return true;
            }
            return false;
        }

        private String name() {
            if (!isName(peek())) {
                throw fault();
            }
            return next();
        }

        private String name(BooleanSupplier isRight) {
            right.add(isRight);
            rightLines.add(line);
            return name();
        }

        private int number(int low, int high) {
            String token = peek();
            if (!token.matches("[0-9]+") || Integer.parseInt(token) < low || Integer.parseInt(token) > high) {
                throw fault();
            }
            return Integer.parseInt(next());
        }

        private int numberOnce(List<Integer> before) {
            int place = before.size();
            right.add(() -> before.indexOf(before.get(place)) == place);
            rightLines.add(line);
            int z = number(0, 999999);
            before.add(z);
            return z;
        }

        private long signed() {
            return has("-") ? -number(0, 999999) : number(0, 999999);
        }

        private void room(int have, int most) {
            if (have == most) {
                throw fault();
            }
        }

        Description parse() {
            while (!peek().isEmpty()) {
                switch (peek()) {
                    case "coding": coding(); break;
                    case "layer": layer(); break;
                    case "code":
                        room(d.codeNumbers.size(), 12);
                        next();
                        numberOnce(d.codeNumbers);
                        want("=");
                        d.codeNames.add(name());
                        want(";");
                        break;
                    case "variant": variant(); break;
                    case "job": job(); break;
                    default: throw fault();
                }
            }
            for (int i = 0; i < right.size(); i++) {
                if (!right.get(i).getAsBoolean()) {
                    throw new Stop(-rightLines.get(i));
                }
            }
            return d;
        }

        private void coding() {
            room(d.codings.size(), 12);
            next();
            CodingOf c = new CodingOf();
            c.name = name(() -> d.coding(c.name) == c);
            d.codings.add(c);
            c.number = d.codings.size();
            want("=");
            c.octets = number(1, 4);
            want("octets");
            if (has("{")) {
                while (peek().matches("[0-9]+")) {
                    room(c.rowNames.size(), 8);
                    numberOnce(c.rowNumbers);
                    c.rowNames.add(name());
                    want(";");
                }
                want("}");
                return;
            }
            if (has("signed")) {
                c.form = "signed";
            } else if (has("scale")) {
                c.times = signed();
                want("/");
                c.over = number(1, 999999);
                want("plus");
                c.plus = signed();
                c.form = "scale " + c.times + "/" + c.over + "+" + c.plus + " ";
            }
            want(";");
        }

        private void layer() {
            room(d.layers.size(), 6);
            next();
            LayerOf l = new LayerOf();
            l.name = name(() -> d.layer(l.name) == l);
            d.layers.add(l);
            l.number = d.layers.size();
            if (has("of")) {
                l.of = name(() -> {
                    ring = d.ringFrom(l);
                    return d.layer(l.of) != null && ring.isEmpty();
                });
            }
            want("{");
            List<ServiceOf> own = new ArrayList<>();
            while (peek().equals("service")) {
                service(l, own);
            }
            want("}");
        }

        private void service(LayerOf l, List<ServiceOf> own) {
            room(d.services.size(), 16);
            next();
            ServiceOf s = new ServiceOf();
            s.layer = l;
            s.name = name(() -> own.stream().filter(o -> o.name.equals(s.name)).findFirst().get() == s);
            d.services.add(s);
            own.add(s);
            s.number = d.services.size();
            want("=");
            s.z = number(0, 191);
            want("{");
            while (peek().equals("param")) {
                room(s.parameters.size(), 8);
                next();
                parameter(s);
            }
            want("}");
        }

        private void parameter(ServiceOf s) {
            ParameterOf p = new ParameterOf();
            p.name = name(() -> s.named(p.name) == p);
            s.parameters.add(p);
            p.number = s.parameters.size();
            want(":");
            p.coding = name(() -> d.coding(p.coding) != null);
            if (peek().equals("when") || peek().equals("times")) {
                p.way = next();
                p.earlier = name(() -> s.named(p.earlier) != null && s.named(p.earlier).number < p.number);
            }
            if (p.way.equals("when")) {
                want("=");
                p.z = number(0, 999999);
            }
            want(";");
        }

        private void variant() {
            room(d.variantNames.size(), 6);
            next();
            int place = d.variantNames.size();
            d.variantNames.add(name(() -> d.layer(d.variantNames.get(place)) != null));
            want("=");
            numberOnce(d.variantNumbers);
            want(";");
        }

        private void job() {
            room(d.jobs.size(), 4);
            next();
            JobOf j = new JobOf();
            j.name = name(() -> d.jobs.stream().filter(o -> o.name.equals(j.name)).findFirst().get() == j);
            d.jobs.add(j);
            want("{");
            opCount = 0;
            j.ops = ops(0);
        }

        private List<OpOf> ops(int depth) {
            List<OpOf> row = new ArrayList<>();
            while (!has("}")) {
                OpOf op = new OpOf();
                op.word = peek();
                if (!WORDS.subList(WORDS.indexOf("put"), WORDS.size()).contains(op.word)) {
                    throw fault();
                }
                room(opCount, 40);
                if (op.word.equals("while")) {
                    room(depth, 3);
                }
                opCount++;
                next();
                row.add(op);
                if (op.word.equals("while")) {
                    want("{");
                    op.within = ops(depth + 1);
                    continue;
                }
                if (op.word.equals("put")) {
                    op.put = signed();
                } else if (op.word.equals("get")) {
                    op.service = name(() -> d.service(op.service) != null);
                    op.parameter = name(() -> d.service(op.service).named(op.parameter) != null);
                }
                want(";");
            }
            return row;
        }
    }

    void sign(int c) {
        for (int shift : new int[] {24, 16, 8, 0}) {
            char octet = (char) (c >> shift & 255);
            if (octet != 0 && text.length() < 2000) {
                text.append(octet);
            }
        }
    }

    int read() {
        ring = new ArrayList<>();
        try {
            Description d = new Parser().parse();
            ring = new ArrayList<>();
            hand = d;
            hand.inUse = d.layers.isEmpty() ? null : d.layers.get(0);
            editions.add(d);
            return d.services.size();
        } catch (Stop stop) {
            return stop.number;
        } finally {
            text.setLength(0);
        }
    }

    private ServiceOf find(int i) {
        return hand == null || i < 1 || i > hand.services.size() ? null : hand.services.get(i - 1);
    }

    private ParameterOf find(int service, int i) {
        ServiceOf s = find(service);
        return s == null || i < 1 || i > s.parameters.size() ? null : s.parameters.get(i - 1);
    }

    private int numberOf(String name) {
        return hand.names.indexOf(name) + 1;
    }

    int service(int i, int what) {
        ServiceOf s = find(i);
        if (s == null) {
            return -1;
        }
        switch (what) {
            case 0: return numberOf(s.name);
            case 1: return s.z;
            case 2: return s.parameters.size();
            case 3: return s.layer.number;
            case 4: return inUse(s.name);
            default: return -2;
        }
    }

    private int inUse(String name) {
        LayerOf at = hand.inUse;
        while (at != null) {
            for (ServiceOf s : hand.services) {
                if (s.layer == at && s.name.equals(name)) {
                    return s.number;
                }
            }
            at = at.of == null ? null : hand.layer(at.of);
        }
        return 0;
    }

    int parameter(int service, int i, int what) {
        ParameterOf p = find(service, i);
        if (p == null) {
            return -1;
        }
        switch (what) {
            case 0: return numberOf(p.name);
            case 1: return hand.coding(p.coding).number;
            case 2: return p.way.equals("when") ? 1 : p.way.equals("times") ? 2 : 0;
            case 3: return p.earlier == null ? 0 : find(service).named(p.earlier).number;
            case 4: return p.z;
            default: return -2;
        }
    }

    /** Where a parameter begins, how many octets it has, and its RAW. */
    private static final class Laid {
        int place;
        int octets;
        BigInteger raw;
    }

    private int groups(ParameterOf p, Map<String, Laid> before) {
        Laid earlier = p.earlier == null ? null : before.get(p.earlier);
        if (p.way.isEmpty()) {
            return 1;
        }
        if (earlier == null) {
            return 0;
        }
        if (p.way.equals("when")) {
            return earlier.raw.equals(BigInteger.valueOf(p.z)) ? 1 : 0;
        }
        return earlier.raw.max(BigInteger.ZERO).min(BigInteger.valueOf(8)).intValue();
    }

    private Map<String, Laid> lay(Description d, ServiceOf s) {
        Map<String, Laid> laid = new HashMap<>();
        if (answer.isEmpty() || answer.get(0) != s.z + 64) {
            return laid;
        }
        int at = 1;
        for (ParameterOf p : s.parameters) {
            CodingOf c = d.coding(p.coding);
            Laid one = new Laid();
            one.place = at;
            one.octets = groups(p, laid) * c.octets;
            if (one.octets == 0) {
                continue;
            }
            if (at + one.octets > answer.size()) {
                break;
            }
            byte[] group = new byte[c.octets];
            for (int i = 0; i < c.octets; i++) {
                group[i] = (byte) (int) answer.get(at + i);
            }
            one.raw = c.form.equals("signed") ? new BigInteger(group) : new BigInteger(1, group);
            laid.put(p.name, one);
            at += one.octets;
        }
        return laid;
    }

    private static BigInteger big(long v) {
        return BigInteger.valueOf(v);
    }

    private static BigInteger overOnes(CodingOf c, BigInteger raw) {
        return raw.multiply(big(c.times)).add(big(c.plus).multiply(big(c.over)));
    }

    long decode(int service, int parameter, int side) {
        ParameterOf p = find(service, parameter);
        if (p == null) {
            return -1;
        }
        if (side < 0 || side > 4) {
            return -2;
        }
        Laid one = lay(hand, find(service)).get(p.name);
        if (one == null) {
            return side == 2 ? -1 : 0;
        }
        CodingOf c = hand.coding(p.coding);
        BigInteger above = overOnes(c, one.raw);
        BigInteger divisor = above.gcd(big(c.over));
        switch (side) {
            case 0: return above.divide(divisor).longValueExact();
            case 1: return big(c.over).divide(divisor).longValueExact();
            case 2: return one.place;
            case 3: return one.octets;
            default:
                int row = one.raw.bitLength() < 31 ? c.rowNumbers.indexOf(one.raw.intValue()) : -1;
                return row < 0 ? 0 : numberOf(c.rowNames.get(row));
        }
    }

    void octet(byte b) {
        if (answer.size() == 64) {
            answer.clear();
        }
        answer.add(b & 255);
    }

    int answerLength() {
        return answer.size();
    }

    int sentLength() {
        return sent.size();
    }

    int encode(int service, int parameter, long v) {
        ParameterOf p = find(service, parameter);
        if (p == null) {
            return -1;
        }
        CodingOf c = hand.coding(p.coding);
        if (c.times == 0) {
            return 0;
        }
        BigInteger[] raw = big(v).subtract(big(c.plus)).multiply(big(c.over)).divideAndRemainder(big(c.times));
        BigInteger end = BigInteger.ONE.shiftLeft(8 * c.octets);
        BigInteger lowest = c.form.equals("signed") ? end.shiftRight(1).negate() : BigInteger.ZERO;
        if (raw[1].signum() != 0 || raw[0].compareTo(lowest) < 0 || raw[0].compareTo(lowest.add(end)) >= 0) {
            return 0;
        }
        p.remembered = raw[0];
        sent = made(find(service));
        return 1;
    }

    private List<Integer> made(ServiceOf s) {
        List<Integer> row = new ArrayList<>();
        Map<String, Laid> there = new HashMap<>();
        row.add(s.z + 64);
        for (ParameterOf p : s.parameters) {
            CodingOf c = hand.coding(p.coding);
            int groups = groups(p, there);
            if (row.size() + groups * c.octets > 64) {
                break;
            }
            if (groups > 0) {
                Laid one = new Laid();
                one.raw = p.remembered;
                there.put(p.name, one);
                for (int i = c.octets - 1; i >= 0; i--) {
                    row.add(p.remembered.shiftRight(8 * i).intValue() & 255);
                }
                for (int i = c.octets; i < groups * c.octets; i++) {
                    row.add(0);
                }
            }
        }
        return row;
    }

    /** The octet, or THROWS. */
    int out(int i) {
        return i < 0 || i >= sent.size() ? THROWS : (byte) (int) sent.get(i);
    }

    int variant(int number) {
        if (hand == null) {
            return -3;
        }
        int at = hand.variantNumbers.indexOf(number);
        hand.inUse = at >= 0 ? hand.layer(hand.variantNames.get(at))
                : hand.layers.stream().filter(l -> !hand.variantNames.contains(l.name)).findFirst().orElse(null);
        return hand.inUse == null ? 0 : hand.inUse.number;
    }

    int job(int name, long steps) {
        if (hand == null || name < 1 || name > hand.jobs.size()) {
            return -1;
        }
        if (steps < 0 || steps > 5000) {
            return -2;
        }
        sent = new ArrayList<>();
        try {
            run(hand.jobs.get(name - 1).ops, new ArrayList<>(), new long[] {steps});
            return 1;
        } catch (Stop stop) {
            return stop.number;
        }
    }

    private static long off(List<Long> pile) {
        if (pile.isEmpty()) {
            throw new Stop(-3);
        }
        return pile.remove(pile.size() - 1);
    }

    private static void on(List<Long> pile, long number) {
        if (pile.size() == 16) {
            throw new Stop(-3);
        }
        pile.add(number);
    }

    private void run(List<OpOf> ops, List<Long> pile, long[] left) {
        for (OpOf op : ops) {
            do {
                if (left[0]-- == 0) {
                    throw new Stop(0);
                }
                if (!op.word.equals("while")) {
                    step(op, pile);
                    break;
                }
                if (off(pile) == 0) {
                    break;
                }
                run(op.within, pile, left);
            } while (true);
        }
    }

    private void step(OpOf op, List<Long> pile) {
        switch (op.word) {
            case "put": on(pile, op.put); return;
            case "get": on(pile, got(op)); return;
            case "drop": off(pile); return;
            case "dup":
                long top = off(pile);
                on(pile, top);
                on(pile, top);
                return;
            case "send":
                long one = off(pile);
                if (sent.size() == 64) {
                    throw new Stop(-4);
                }
                sent.add((int) (one & 255));
                return;
            default:
                long upper = off(pile);
                long lower = off(pile);
                if (op.word.equals("swap")) {
                    on(pile, upper);
                    on(pile, lower);
                    return;
                }
                BigInteger a = big(lower);
                BigInteger b = big(upper);
                on(pile, (op.word.equals("add") ? a.add(b) : op.word.equals("sub") ? a.subtract(b) : a.multiply(b)).longValue());
        }
    }

    private long got(OpOf op) {
        ServiceOf s = hand.service(op.service);
        ParameterOf p = s.named(op.parameter);
        Laid one = lay(hand, s).get(p.name);
        if (one == null) {
            return 0;
        }
        CodingOf c = hand.coding(p.coding);
        BigInteger[] parts = overOnes(c, one.raw).divideAndRemainder(big(c.over));
        return parts[0].longValueExact() - (parts[1].signum() < 0 ? 1 : 0);
    }

    int ring(int i) {
        return i < 0 || i >= ring.size() ? 0 : ring.get(i);
    }

    int compare(int edition) {
        if (edition < 1 || edition > editions.size() || edition > 4) {
            return -1;
        }
        List<String> there = likes(editions.get(edition - 1));
        return (int) likes(hand).stream().filter(s -> !there.contains(s)).count();
    }

    private static List<String> likes(Description d) {
        List<String> row = new ArrayList<>();
        for (ServiceOf s : d.services) {
            StringBuilder one = new StringBuilder(s.name + "=" + s.z + " in " + s.layer.name + ":");
            for (ParameterOf p : s.parameters) {
                one.append(p.name).append(' ').append(p.way).append(' ').append(p.earlier).append(' ').append(p.z).append(' ')
                        .append(d.coding(p.coding).like()).append(';');
            }
            row.add(one.toString());
        }
        return row;
    }

    int code(int number) {
        int at = hand == null ? -1 : hand.codeNumbers.indexOf(number);
        return at < 0 ? 0 : numberOf(hand.codeNames.get(at));
    }
}
