import java.util.ArrayList;
import java.util.Arrays;

/** Descriptions of what a controller tells, as texts; the promises stand in DOC.md. */
public final class DescribeText {
    private static final int UNKNOWN = -1;
    private static final int OUTSIDE = -2;
    private static final int NOT_NOW = -3;
    private static final int NO_ROOM = -4;

    private static final int MOST_TEXT = 2000;
    private static final int MOST_LETTERS = 12;
    private static final int MOST_DIGITS = 6;
    private static final int MOST_NUMBER = 999999;
    private static final int MOST_CODINGS = 12;
    private static final int MOST_ROWS = 8;
    private static final int MOST_LAYERS = 6;
    private static final int MOST_SERVICES = 16;
    private static final int MOST_SERVICE_NUMBER = 191;
    private static final int MOST_PARAMETERS = 8;
    private static final int MOST_GROUPS = 8;
    private static final int MOST_CODES = 12;
    private static final int MOST_VARIANTS = 6;
    private static final int MOST_JOBS = 4;
    private static final int MOST_OPS = 40;
    private static final int MOST_WHILES = 3;
    private static final int MOST_WIDTH = 4;
    private static final int MOST_OCTETS = 64;
    private static final int MOST_PILE = 16;
    private static final int MOST_STEPS = 5000;
    private static final int MOST_KEPT = 4;

    private static final int WITH_NEITHER = 0;
    private static final int WITH_WHEN = 1;
    private static final int WITH_TIMES = 2;

    /** By how much an ANSWER's first octet is above its service's number. */
    private static final int ANSWER_SHIFT = 64;
    private static final int NEW_LINE = 10;
    private static final long NO_NAME = 0;
    /** No RAW of four octets comes near it. */
    private static final long NO_RAW = Long.MIN_VALUE;
    /** Above every RAW, and no VALUE of one is farther from 0 than FAR. */
    private static final long RAW_END = 1L << 32;
    private static final long FAR = 10000000000000000L;

    private final byte[] text = new byte[MOST_TEXT];
    private final Reader reader = new Reader();
    private final Octets told = new Octets();
    private final Octets sent = new Octets();
    private final Edition[] kept = new Edition[MOST_KEPT];
    private int textLength;
    private int keptCount;
    private Edition hand;
    private Layer ringStart;

    public DescribeText() {
    }

    public void sign(int c) {
        for (int shift = 24; shift >= 0; shift -= 8) {
            int next = (c >>> shift) & 255;
            if (next != 0 && textLength < MOST_TEXT) {
                text[textLength] = (byte) next;
                textLength++;
            }
        }
    }

    public int read() {
        Edition edition = new Edition();
        ringStart = null;
        int faultAt = reader.fill(edition, text, textLength);
        if (faultAt < 0) {
            edition.findMeanings();
            faultAt = edition.wrongAt;
            ringStart = edition.ringStart;
        }
        int line = lineAt(faultAt);
        textLength = 0;
        if (faultAt >= 0) {
            return -line;
        }
        take(edition);
        return edition.services.size();
    }

    public int service(int i, int what) {
        Service s = serviceNumbered(i);
        if (s == null || hand == null) {
            return UNKNOWN;
        }
        switch (what) {
            case 0: return hand.numberOf(s.name);
            case 1: return s.z;
            case 2: return s.parameters.size();
            case 3: return s.layer.number;
            case 4: return hand.numberInUse(s.name);
            default: return OUTSIDE;
        }
    }

    public int parameter(int service, int i, int what) {
        Parameter p = parameterNumbered(serviceNumbered(service), i);
        if (p == null || hand == null) {
            return UNKNOWN;
        }
        switch (what) {
            case 0: return hand.numberOf(p.name);
            case 1: return p.coding == null ? 0 : p.coding.number;
            case 2: return p.kind;
            case 3: return p.earlier == null ? 0 : p.earlier.number;
            case 4: return p.z;
            default: return OUTSIDE;
        }
    }

    public long decode(int service, int parameter, int side) {
        Service s = serviceNumbered(service);
        Parameter p = parameterNumbered(s, parameter);
        if (s == null || p == null || hand == null) {
            return UNKNOWN;
        }
        if (side < 0 || side > 4) {
            return OUTSIDE;
        }
        s.tell(told);
        if (p.size == 0 || p.coding == null) {
            return side == 2 ? -1 : 0;
        }
        switch (side) {
            case 0: return p.coding.above(p.raw);
            case 1: return p.coding.below(p.raw);
            case 2: return p.place;
            case 3: return p.size;
            default: return hand.numberOf(p.coding.rowName(p.raw));
        }
    }

    public void octet(byte b) {
        if (told.length == MOST_OCTETS) {
            told.length = 0;
        }
        told.add(b);
    }

    public int encode(int service, int parameter, long v) {
        Service s = serviceNumbered(service);
        Parameter p = parameterNumbered(s, parameter);
        if (s == null || p == null || p.coding == null) {
            return UNKNOWN;
        }
        long raw = p.coding.rawFor(v);
        if (raw == NO_RAW) {
            return 0;
        }
        p.remembered = raw;
        s.make(sent);
        return 1;
    }

    public byte out(int i) throws ArrayIndexOutOfBoundsException {
        if (i < 0 || i >= sent.length) {
            throw new ArrayIndexOutOfBoundsException();
        }
        return (byte) sent.at(i);
    }

    public int variant(int answer) {
        if (hand == null) {
            return NOT_NOW;
        }
        hand.inUse = hand.layerFor(answer);
        return hand.inUse == null ? 0 : hand.inUse.number;
    }

    public int job(int name, long steps) {
        if (hand == null || name < 1 || name > hand.jobs.size()) {
            return UNKNOWN;
        }
        if (steps < 0 || steps > MOST_STEPS) {
            return OUTSIDE;
        }
        return hand.jobs.get(name - 1).run((int) steps, told, sent);
    }

    public int ring(int i) {
        if (i < 0 || i >= MOST_LAYERS) {
            return 0;
        }
        Layer at = ringStart;
        for (int k = 0; k < i && at != null; k++) {
            at = at.of == ringStart ? null : at.of;
        }
        return at == null ? 0 : at.number;
    }

    public int compare(int edition) {
        if (hand == null || edition < 1 || edition > keptCount || edition > MOST_KEPT) {
            return UNKNOWN;
        }
        Edition other = kept[edition - 1];
        return other == null ? UNKNOWN : hand.countUnlike(other);
    }

    public int code(int number) {
        if (hand == null) {
            return 0;
        }
        Entry e = firstWithNumber(hand.codes, number);
        return e == null ? 0 : hand.numberOf(e.name);
    }

    private void take(Edition edition) {
        hand = edition;
        if (!edition.layers.isEmpty()) {
            edition.inUse = edition.layers.get(0);
        }
        if (keptCount < MOST_KEPT) {
            kept[keptCount] = edition;
            keptCount++;
        }
    }

    private int lineAt(int at) {
        int line = 1;
        for (int i = 0; i < at && i < textLength; i++) {
            if (text[i] == NEW_LINE) {
                line++;
            }
        }
        return line;
    }

    private Service serviceNumbered(int number) {
        if (hand == null || number < 1 || number > hand.services.size()) {
            return null;
        }
        return hand.services.get(number - 1);
    }

    private static Parameter parameterNumbered(Service s, int number) {
        if (s == null || number < 1 || number > s.parameters.size()) {
            return null;
        }
        return s.parameters.get(number - 1);
    }

    private static Entry firstWithNumber(ArrayList<Entry> entries, long z) {
        for (int i = 0; i < entries.size(); i++) {
            Entry e = entries.get(i);
            if (e.z == z) {
                return e;
            }
        }
        return null;
    }

    /** The kinds of TOKENS; those of OPS also know how many numbers they take off the PILE and lay on it. */
    private enum Token {
        NAME(""), NUMBER(""), END(""), BAD(""),
        OPEN("{"), CLOSE("}"), SEMICOLON(";"), COLON(":"), EQUAL("="), SLASH("/"), MINUS("-"),
        CODING("coding"), OCTETS("octets"), SIGNED("signed"), SCALE("scale"), PLUS("plus"),
        LAYER("layer"), OF("of"), SERVICE("service"), PARAM("param"), WHEN("when"), TIMES("times"),
        CODE("code"), VARIANT("variant"), JOB("job"),
        PUT("put", 0, 1), GET("get", 0, 1), ADD("add", 2, 1), SUB("sub", 2, 1), MUL("mul", 2, 1),
        DUP("dup", 1, 2), SWAP("swap", 2, 2), DROP("drop", 1, 0), SEND("send", 1, 0), WHILE("while", 1, 0);

        private static final Token[] ALL = values();

        private final String text;
        private final int takes;
        private final int lays;

        Token(String text) {
            this(text, 0, 0);
        }

        Token(String text, int takes, int lays) {
            this.text = text;
            this.takes = takes;
            this.lays = lays;
        }

        /** The WORD or SIGN that stands from one place up to another, null if it is none. */
        static Token standing(byte[] row, int from, int to) {
            for (int i = 0; i < ALL.length; i++) {
                if (ALL[i].stands(row, from, to)) {
                    return ALL[i];
                }
            }
            return null;
        }

        private boolean stands(byte[] row, int from, int to) {
            int length = text.length();
            if (to - from != length || length == 0 || from < 0 || to > row.length) {
                return false;
            }
            for (int i = 0; i < length; i++) {
                if (row[from + i] != text.charAt(i)) {
                    return false;
                }
            }
            return true;
        }

        boolean isOp() {
            return takes + lays > 0;
        }
    }

    /** A text cut into TOKENS, up to the first octet that no TOKEN can have. */
    private static final class Tokens {
        private final Token[] kinds = new Token[MOST_TEXT + 1];
        private final int[] starts = new int[MOST_TEXT + 1];
        /** A NUMBER's number, or a NAME as a number, so that texts compare NAMES without their letters. */
        private final long[] values = new long[MOST_TEXT + 1];
        private int count;

        void cut(byte[] text, int length) {
            count = 0;
            int end = Math.min(length, text.length);
            int at = 0;
            for (int k = 0; k < end && at < end; k++) {
                at = isBlank(text[at]) ? at + 1 : cutOne(text, at, end);
            }
            add(Token.END, end, 0);
        }

        Token kind(int i) {
            if (i < 0 || i >= count || i >= kinds.length) {
                return Token.BAD;
            }
            Token kind = kinds[i];
            return kind == null ? Token.BAD : kind;
        }

        int start(int i) {
            return i < 0 || i >= count || i >= starts.length ? 0 : starts[i];
        }

        long value(int i) {
            return i < 0 || i >= count || i >= values.length ? 0 : values[i];
        }

        private int cutOne(byte[] text, int at, int end) {
            if (isLetter(text[at])) {
                return cutName(text, at, end);
            }
            if (isDigit(text[at])) {
                return cutNumber(text, at, end);
            }
            Token sign = Token.standing(text, at, at + 1);
            if (sign == null) {
                return stop(at, end);
            }
            add(sign, at, 0);
            return at + 1;
        }

        private int cutName(byte[] text, int at, int end) {
            long packed = 0;
            int to = at;
            for (; to < end && (isLetter(text[to]) || isDigit(text[to])); to++) {
                if (to - at == MOST_LETTERS) {
                    return stop(to, end);
                }
                int sign = isLetter(text[to]) ? text[to] - 'a' + 1 : text[to] - '0' + 27;
                packed = packed * 37 + sign;
            }
            Token word = Token.standing(text, at, to);
            add(word == null ? Token.NAME : word, at, packed);
            return to;
        }

        private int cutNumber(byte[] text, int at, int end) {
            long number = 0;
            int to = at;
            for (; to < end && isDigit(text[to]); to++) {
                if (to - at == MOST_DIGITS) {
                    return stop(to, end);
                }
                number = number * 10 + (text[to] - '0');
            }
            if (to < end && isLetter(text[to])) {
                return stop(to, end);
            }
            add(Token.NUMBER, at, number);
            return to;
        }

        /** Nothing behind a BAD one is ever asked for, so the rest is passed over. */
        private int stop(int at, int end) {
            add(Token.BAD, at, 0);
            return end;
        }

        private void add(Token kind, int start, long value) {
            if (count < kinds.length) {
                kinds[count] = kind;
                starts[count] = start;
                values[count] = value;
                count++;
            }
        }

        private static boolean isBlank(byte b) {
            return b == ' ' || b == 9 || b == NEW_LINE || b == 13;
        }

        private static boolean isLetter(byte b) {
            return b >= 'a' && b <= 'z';
        }

        private static boolean isDigit(byte b) {
            return b >= '0' && b <= '9';
        }
    }

    /**
     * Fills an edition from a text. After the first fault no TOKEN is the one that is wanted,
     * so that all methods come to their end without taking more.
     */
    private static final class Reader {
        private final Tokens tokens = new Tokens();
        private final int[] openWhiles = new int[MOST_WHILES];
        private Edition edition;
        private int place;
        private int faultAt;

        /** Where the text's first fault of form lies, -1 if there is none. */
        int fill(Edition empty, byte[] text, int length) {
            tokens.cut(text, length);
            edition = empty;
            place = 0;
            faultAt = -1;
            for (int k = 0; k < tokens.count && faultAt < 0 && !sees(Token.END); k++) {
                switch (tokens.kind(place)) {
                    case CODING:
                        takeCoding();
                        break;
                    case LAYER:
                        takeLayer();
                        break;
                    case CODE:
                        takeCode();
                        break;
                    case VARIANT:
                        takeVariant();
                        break;
                    case JOB:
                        takeJob();
                        break;
                    default:
                        fail();
                }
            }
            noteNames();
            return faultAt;
        }

        private void noteNames() {
            for (int i = 0; i < tokens.count && faultAt < 0; i++) {
                if (tokens.kind(i) == Token.NAME) {
                    edition.note(tokens.value(i));
                }
            }
        }

        private void takeCoding() {
            begin(edition.codings.size(), MOST_CODINGS);
            Coding c = new Coding(edition.codings.size() + 1, start(), takeName());
            take(Token.EQUAL);
            c.width = takeNumber(1, MOST_WIDTH);
            take(Token.OCTETS);
            if (sees(Token.OPEN)) {
                takeRows(c);
            } else {
                takeForm(c);
            }
            edition.codings.add(c);
        }

        private void takeForm(Coding c) {
            if (sees(Token.SIGNED)) {
                place++;
                c.signed = true;
            } else if (sees(Token.SCALE)) {
                place++;
                c.scaled = true;
                c.times = takeValue();
                take(Token.SLASH);
                c.over = takeNumber(1, MOST_NUMBER);
                take(Token.PLUS);
                c.plus = takeValue();
            }
            take(Token.SEMICOLON);
        }

        private void takeRows(Coding c) {
            place++;
            for (int k = 0; k <= MOST_ROWS && sees(Token.NUMBER); k++) {
                if (k == MOST_ROWS) {
                    fail();
                }
                Entry row = new Entry();
                takeNumberOf(row);
                takeNameOf(row);
                take(Token.SEMICOLON);
                c.rows.add(row);
            }
            take(Token.CLOSE);
        }

        private void takeLayer() {
            begin(edition.layers.size(), MOST_LAYERS);
            Layer l = new Layer(edition.layers.size() + 1, start(), takeName());
            if (sees(Token.OF)) {
                place++;
                l.ofAt = start();
                l.ofName = takeName();
            }
            edition.layers.add(l);
            take(Token.OPEN);
            for (int k = 0; k <= MOST_SERVICES && sees(Token.SERVICE); k++) {
                takeService(l);
            }
            take(Token.CLOSE);
        }

        private void takeService(Layer l) {
            begin(edition.services.size(), MOST_SERVICES);
            Service s = new Service(edition.services.size() + 1, l, start(), takeName());
            take(Token.EQUAL);
            s.z = takeNumber(0, MOST_SERVICE_NUMBER);
            take(Token.OPEN);
            for (int k = 0; k <= MOST_PARAMETERS && sees(Token.PARAM); k++) {
                takeParameter(s);
            }
            take(Token.CLOSE);
            edition.services.add(s);
        }

        private void takeParameter(Service s) {
            begin(s.parameters.size(), MOST_PARAMETERS);
            Parameter p = new Parameter(s.parameters.size() + 1, start(), takeName());
            take(Token.COLON);
            p.codingAt = start();
            p.codingName = takeName();
            if (sees(Token.WHEN)) {
                p.kind = WITH_WHEN;
            } else if (sees(Token.TIMES)) {
                p.kind = WITH_TIMES;
            }
            if (p.kind != WITH_NEITHER) {
                place++;
                p.earlierAt = start();
                p.earlierName = takeName();
            }
            if (p.kind == WITH_WHEN) {
                take(Token.EQUAL);
                p.z = takeNumber(0, MOST_NUMBER);
            }
            take(Token.SEMICOLON);
            s.parameters.add(p);
        }

        private void takeCode() {
            begin(edition.codes.size(), MOST_CODES);
            Entry e = new Entry();
            takeNumberOf(e);
            take(Token.EQUAL);
            takeNameOf(e);
            take(Token.SEMICOLON);
            edition.codes.add(e);
        }

        private void takeVariant() {
            begin(edition.variants.size(), MOST_VARIANTS);
            Entry e = new Entry();
            takeNameOf(e);
            take(Token.EQUAL);
            takeNumberOf(e);
            take(Token.SEMICOLON);
            edition.variants.add(e);
        }

        private void takeJob() {
            begin(edition.jobs.size(), MOST_JOBS);
            Job j = new Job(start(), takeName());
            take(Token.OPEN);
            int taken = 0;
            int open = 0;
            for (int k = 0; k <= 2 * MOST_OPS; k++) {
                if (open > 0 && sees(Token.CLOSE)) {
                    open--;
                    closeWhile(j, open);
                } else if (tokens.kind(place).isOp() && faultAt < 0) {
                    open = takeOp(j, taken, open);
                    taken++;
                } else {
                    break;
                }
            }
            take(Token.CLOSE);
            edition.jobs.add(j);
        }

        /** Takes an OP, of a while only its begin, and answers how many whiles are open then. */
        private int takeOp(Job j, int taken, int open) {
            Op op = new Op(tokens.kind(place));
            if (op.kind == Token.WHILE && open >= MOST_WHILES) {
                fail();
            }
            begin(taken, MOST_OPS);
            j.ops.add(op);
            if (op.kind == Token.WHILE) {
                return openWhile(j, open);
            }
            if (op.kind == Token.PUT) {
                op.number = takeValue();
            } else if (op.kind == Token.GET) {
                op.serviceAt = start();
                op.serviceName = takeName();
                op.parameterAt = start();
                op.parameterName = takeName();
            }
            take(Token.SEMICOLON);
            return open;
        }

        private int openWhile(Job j, int open) {
            if (open < 0 || open >= openWhiles.length) {
                return open;
            }
            openWhiles[open] = j.ops.size() - 1;
            take(Token.OPEN);
            return open + 1;
        }

        private void closeWhile(Job j, int open) {
            take(Token.CLOSE);
            if (open < 0 || open >= openWhiles.length) {
                return;
            }
            int start = openWhiles[open];
            Op back = new Op(Token.CLOSE);
            back.target = start;
            j.ops.add(back);
            if (start >= 0 && start < j.ops.size()) {
                j.ops.get(start).target = j.ops.size();
            }
        }

        /** Takes the TOKEN that begins something, unless that is one too many. */
        private void begin(int have, int most) {
            if (have >= most) {
                fail();
            } else if (faultAt < 0) {
                place++;
            }
        }

        private void take(Token wanted) {
            if (sees(wanted)) {
                place++;
            } else {
                fail();
            }
        }

        private int takeNumber(int low, int high) {
            long number = tokens.value(place);
            if (!sees(Token.NUMBER) || number < low || number > high) {
                fail();
                return low;
            }
            place++;
            return (int) number;
        }

        private int takeValue() {
            boolean minus = sees(Token.MINUS);
            if (minus) {
                place++;
            }
            int number = takeNumber(0, MOST_NUMBER);
            return minus ? -number : number;
        }

        private long takeName() {
            if (!sees(Token.NAME)) {
                fail();
                return NO_NAME;
            }
            long name = tokens.value(place);
            place++;
            return name;
        }

        private void takeNumberOf(Entry e) {
            e.zAt = start();
            e.z = takeNumber(0, MOST_NUMBER);
        }

        private void takeNameOf(Entry e) {
            e.nameAt = start();
            e.name = takeName();
        }

        private boolean sees(Token wanted) {
            return faultAt < 0 && tokens.kind(place) == wanted;
        }

        private int start() {
            return tokens.start(place);
        }

        private void fail() {
            if (faultAt < 0) {
                faultAt = tokens.start(place);
            }
        }
    }

    /** A NUMBER with a NAME: a ROW, a code or a variant (only that one's NAME means a layer). */
    private static final class Entry {
        private int z;
        private int zAt;
        private long name;
        private int nameAt;
        private Layer layer;
    }

    private static final class Coding {
        private final int number;
        private final int at;
        private final long name;
        private final ArrayList<Entry> rows = new ArrayList<>();
        private int width;
        private boolean signed;
        private boolean scaled;
        private long times = 1;
        private long over = 1;
        private long plus;

        Coding(int number, int at, long name) {
            this.number = number;
            this.at = at;
            this.name = name;
        }

        /** The number in the GROUP of octets that begins at a place. */
        long rawAt(Octets row, int place) {
            long raw = 0;
            for (int i = 0; i < width; i++) {
                raw = raw * 256 + row.at(place + i);
            }
            return signed && raw > highest() ? raw - (1L << (8 * width)) : raw;
        }

        private long highest() {
            return (1L << (signed ? 8 * width - 1 : 8 * width)) - 1;
        }

        private long lowest() {
            return signed ? -(1L << (8 * width - 1)) : 0;
        }

        /** The VALUE of a RAW, times what it is over. */
        private long whole(long raw) {
            return raw * times + plus * over;
        }

        long above(long raw) {
            long divisor = commonDivisor(whole(raw), over);
            return divisor == 0 ? 0 : whole(raw) / divisor;
        }

        long below(long raw) {
            long divisor = commonDivisor(whole(raw), over);
            return divisor == 0 ? 0 : over / divisor;
        }

        long floor(long raw) {
            return over == 0 ? 0 : Math.floorDiv(whole(raw), over);
        }

        private static long commonDivisor(long first, long second) {
            long a = Math.abs(first);
            long b = second;
            for (int k = 0; k < 200 && b != 0; k++) {
                long rest = a % b;
                a = b;
                b = rest;
            }
            return a;
        }

        /** The RAW that has a VALUE, NO_RAW if the octets can have none. */
        long rawFor(long v) {
            if (times == 0 || over == 0 || v < -FAR || v > FAR) {
                return NO_RAW;
            }
            long distance = v - plus;
            // Without this bound the product below could wrap round to a RAW that fits.
            if (Math.abs(distance) > RAW_END * Math.abs(times) / over) {
                return NO_RAW;
            }
            long product = distance * over;
            if (product % times != 0) {
                return NO_RAW;
            }
            long raw = product / times;
            return raw < lowest() || raw > highest() ? NO_RAW : raw;
        }

        long rowName(long raw) {
            Entry row = firstWithNumber(rows, raw);
            return row == null ? NO_NAME : row.name;
        }

        boolean isLike(Coding other) {
            if (width != other.width || signed != other.signed || scaled != other.scaled) {
                return false;
            }
            if (times != other.times || over != other.over || plus != other.plus) {
                return false;
            }
            boolean like = rows.size() == other.rows.size();
            for (int i = 0; like && i < rows.size() && i < other.rows.size(); i++) {
                Entry mine = rows.get(i);
                Entry its = other.rows.get(i);
                like = mine.z == its.z && mine.name == its.name;
            }
            return like;
        }
    }

    private static final class Layer {
        private final int number;
        private final int at;
        private final long name;
        private long ofName;
        private int ofAt;
        private Layer of;

        Layer(int number, int at, long name) {
            this.number = number;
            this.at = at;
            this.name = name;
        }

        boolean isInRing() {
            Layer next = of;
            for (int k = 0; k < MOST_LAYERS && next != null; k++) {
                if (next == this) {
                    return true;
                }
                next = next.of;
            }
            return false;
        }
    }

    private static final class Parameter {
        private final int number;
        private final int at;
        private final long name;
        private long codingName;
        private int codingAt;
        private Coding coding;
        private int kind = WITH_NEITHER;
        private long earlierName;
        private int earlierAt;
        private Parameter earlier;
        private int z;
        /** Where it lies in the row that its service was laid over last; with size 0 it is not there. */
        private int place;
        private int size;
        private long raw;
        private long remembered;

        Parameter(int number, int at, long name) {
            this.number = number;
            this.at = at;
            this.name = name;
        }

        /** How many octets its GROUPS take, by what the earlier ones are. */
        int wantedSize() {
            return coding == null ? 0 : groups() * coding.width;
        }

        private int groups() {
            if (kind == WITH_NEITHER) {
                return 1;
            }
            if (earlier == null || earlier.size == 0) {
                return 0;
            }
            if (kind == WITH_WHEN) {
                return earlier.raw == z ? 1 : 0;
            }
            return (int) Math.max(0, Math.min(earlier.raw, MOST_GROUPS));
        }

        void lay(int newPlace, int newSize, long newRaw) {
            place = newPlace;
            size = newSize;
            raw = newRaw;
        }

        /** Adds its RAW, then as many octets 0 as its size leaves. */
        void write(Octets row) {
            int width = coding == null ? 0 : coding.width;
            for (int i = 0; i < size; i++) {
                row.add(i < width ? (int) (raw >> (8 * (width - 1 - i))) : 0);
            }
        }

        boolean isLike(Parameter other) {
            if (name != other.name || kind != other.kind || z != other.z) {
                return false;
            }
            if (earlierName != other.earlierName || coding == null || other.coding == null) {
                return false;
            }
            return coding.isLike(other.coding);
        }
    }

    private static final class Service {
        private final int number;
        private final Layer layer;
        private final int at;
        private final long name;
        private final ArrayList<Parameter> parameters = new ArrayList<>();
        private int z;

        Service(int number, Layer layer, int at, long name) {
            this.number = number;
            this.layer = layer;
            this.at = at;
            this.name = name;
        }

        Parameter named(long wanted) {
            for (int i = 0; i < parameters.size(); i++) {
                Parameter p = parameters.get(i);
                if (p.name == wanted) {
                    return p;
                }
            }
            return null;
        }

        /** Lays the parameters over an ANSWER. */
        void tell(Octets row) {
            forget();
            if (row.length == 0 || row.at(0) != z + ANSWER_SHIFT) {
                return;
            }
            int end = 1;
            for (int i = 0; i < parameters.size(); i++) {
                Parameter p = parameters.get(i);
                int size = p.wantedSize();
                if (end + size > row.length) {
                    return;
                }
                if (size > 0 && p.coding != null) {
                    p.lay(end, size, p.coding.rawAt(row, end));
                }
                end += size;
            }
        }

        /** Writes the ANSWER that has the remembered RAWS. */
        void make(Octets row) {
            forget();
            row.length = 0;
            row.add(z + ANSWER_SHIFT);
            for (int i = 0; i < parameters.size(); i++) {
                Parameter p = parameters.get(i);
                int size = p.wantedSize();
                if (row.length + size > MOST_OCTETS) {
                    return;
                }
                p.lay(row.length, size, p.remembered);
                p.write(row);
            }
        }

        private void forget() {
            for (int i = 0; i < parameters.size(); i++) {
                parameters.get(i).lay(0, 0, 0);
            }
        }

        boolean isLike(Service other) {
            boolean like = name == other.name && z == other.z && layer.name == other.layer.name
                    && parameters.size() == other.parameters.size();
            for (int i = 0; like && i < parameters.size() && i < other.parameters.size(); i++) {
                like = parameters.get(i).isLike(other.parameters.get(i));
            }
            return like;
        }
    }

    /** An OP, or the } of a while, which is of kind CLOSE and no step. */
    private static final class Op {
        private final Token kind;
        private long number;
        private long serviceName;
        private int serviceAt;
        private Service from;
        private long parameterName;
        private int parameterAt;
        private Parameter what;
        /** Where a while goes on with 0, or to which while a } goes back. */
        private int target;

        Op(Token kind) {
            this.kind = kind;
        }

        long valueIn(Octets row) {
            if (from == null || what == null || what.coding == null) {
                return 0;
            }
            from.tell(row);
            return what.size == 0 ? 0 : what.coding.floor(what.raw);
        }
    }

    private static final class Job {
        private final int at;
        private final long name;
        private final ArrayList<Op> ops = new ArrayList<>();
        private final long[] pile = new long[MOST_PILE];
        private int height;

        Job(int at, long name) {
            this.at = at;
            this.name = name;
        }

        int run(int steps, Octets told, Octets sent) {
            height = 0;
            sent.length = 0;
            int left = steps;
            int place = 0;
            // A } leads to a while, so that at most every other turn is no step.
            for (int turn = 0; turn <= 2 * MOST_STEPS + 2; turn++) {
                if (place < 0 || place >= ops.size()) {
                    return 1;
                }
                Op op = ops.get(place);
                if (op.kind == Token.CLOSE) {
                    place = op.target;
                    continue;
                }
                if (left == 0) {
                    return 0;
                }
                left--;
                int refusal = refusalOf(op.kind, sent);
                if (refusal != 0) {
                    return refusal;
                }
                if (op.kind == Token.WHILE) {
                    place = lift() == 0 ? op.target : place + 1;
                } else {
                    step(op, told, sent);
                    place++;
                }
            }
            return 0;
        }

        private int refusalOf(Token kind, Octets sent) {
            if (height < kind.takes || height - kind.takes + kind.lays > MOST_PILE) {
                return NOT_NOW;
            }
            return kind == Token.SEND && sent.length >= MOST_OCTETS ? NO_ROOM : 0;
        }

        private void step(Op op, Octets told, Octets sent) {
            switch (op.kind) {
                case PUT:
                    lay(op.number);
                    break;
                case GET:
                    lay(op.valueIn(told));
                    break;
                case DROP:
                    lift();
                    break;
                case SEND:
                    sent.add((int) lift());
                    break;
                case DUP:
                    long top = lift();
                    lay(top);
                    lay(top);
                    break;
                default:
                    join(op.kind);
            }
        }

        private void join(Token kind) {
            long upper = lift();
            long lower = lift();
            switch (kind) {
                case ADD:
                    lay(lower + upper);
                    break;
                case SUB:
                    lay(lower - upper);
                    break;
                case MUL:
                    lay(lower * upper);
                    break;
                default:
                    lay(upper);
                    lay(lower);
            }
        }

        private void lay(long number) {
            if (height >= 0 && height < pile.length) {
                pile[height] = number;
                height++;
            }
        }

        private long lift() {
            if (height < 1 || height > pile.length) {
                return 0;
            }
            height--;
            return pile[height];
        }
    }

    /** A row of octets with an end: an ANSWER, or what is SENT. */
    private static final class Octets {
        private final byte[] row = new byte[MOST_OCTETS];
        private int length;

        void add(int value) {
            if (length >= 0 && length < row.length) {
                row[length] = (byte) value;
                length++;
            }
        }

        int at(int i) {
            return i < 0 || i >= length || i >= row.length ? 0 : row[i] & 255;
        }
    }

    /** What a text describes. */
    private static final class Edition {
        private final ArrayList<Coding> codings = new ArrayList<>();
        private final ArrayList<Layer> layers = new ArrayList<>();
        private final ArrayList<Service> services = new ArrayList<>();
        private final ArrayList<Entry> codes = new ArrayList<>();
        private final ArrayList<Entry> variants = new ArrayList<>();
        private final ArrayList<Job> jobs = new ArrayList<>();
        private long[] names = new long[8];
        private int nameCount;
        private Layer inUse;
        private int wrongAt = -1;
        private Layer ringStart;

        /** Gives a NAME its number, if it has none yet. */
        void note(long name) {
            if (numberOf(name) != 0) {
                return;
            }
            if (nameCount >= names.length) {
                names = Arrays.copyOf(names, 2 * nameCount);
            }
            names[nameCount] = name;
            nameCount++;
        }

        int numberOf(long name) {
            for (int i = 0; i < nameCount && i < names.length; i++) {
                if (names[i] == name) {
                    return i + 1;
                }
            }
            return 0;
        }

        /** Ties every NAME to what it means, and finds the first NAME or NUMBER that is wrong. */
        void findMeanings() {
            findLayers();
            for (int i = 0; i < codings.size(); i++) {
                Coding c = codings.get(i);
                expect(codingNamed(c.name) == c, c.at);
                expectNumbersOnce(c.rows);
            }
            for (int i = 0; i < services.size(); i++) {
                Service s = services.get(i);
                expect(serviceIn(s.layer, s.name) == s, s.at);
                findParameters(s);
            }
            expectNumbersOnce(codes);
            findVariants();
            for (int i = 0; i < jobs.size(); i++) {
                Job j = jobs.get(i);
                expect(jobNamed(j.name) == j, j.at);
                findGets(j);
            }
        }

        private void findLayers() {
            for (int i = 0; i < layers.size(); i++) {
                Layer l = layers.get(i);
                expect(layerNamed(l.name) == l, l.at);
                if (l.ofName != NO_NAME) {
                    l.of = layerNamed(l.ofName);
                    expect(l.of != null, l.ofAt);
                }
            }
            for (int i = 0; i < layers.size(); i++) {
                Layer l = layers.get(i);
                if (l.isInRing() && isFirst(l.ofAt)) {
                    expect(false, l.ofAt);
                    ringStart = l;
                }
            }
        }

        private void findParameters(Service s) {
            for (int i = 0; i < s.parameters.size(); i++) {
                Parameter p = s.parameters.get(i);
                expect(s.named(p.name) == p, p.at);
                p.coding = codingNamed(p.codingName);
                expect(p.coding != null, p.codingAt);
                if (p.kind != WITH_NEITHER) {
                    Parameter earlier = s.named(p.earlierName);
                    p.earlier = earlier != null && earlier.number < p.number ? earlier : null;
                    expect(p.earlier != null, p.earlierAt);
                }
            }
        }

        private void findVariants() {
            expectNumbersOnce(variants);
            for (int i = 0; i < variants.size(); i++) {
                Entry v = variants.get(i);
                v.layer = layerNamed(v.name);
                expect(v.layer != null, v.nameAt);
            }
        }

        private void findGets(Job j) {
            for (int i = 0; i < j.ops.size(); i++) {
                Op op = j.ops.get(i);
                if (op.kind == Token.GET) {
                    op.from = serviceNamed(op.serviceName);
                    expect(op.from != null, op.serviceAt);
                    op.what = op.from == null ? null : op.from.named(op.parameterName);
                    expect(op.what != null, op.parameterAt);
                }
            }
        }

        private void expectNumbersOnce(ArrayList<Entry> entries) {
            for (int i = 0; i < entries.size(); i++) {
                Entry e = entries.get(i);
                expect(firstWithNumber(entries, e.z) == e, e.zAt);
            }
        }

        /** A RING is only told when nothing before it in the text is wrong. */
        private void expect(boolean right, int at) {
            if (!right && isFirst(at)) {
                wrongAt = at;
                ringStart = null;
            }
        }

        private boolean isFirst(int at) {
            return wrongAt < 0 || at < wrongAt;
        }

        private Coding codingNamed(long name) {
            for (int i = 0; i < codings.size(); i++) {
                Coding c = codings.get(i);
                if (c.name == name) {
                    return c;
                }
            }
            return null;
        }

        private Layer layerNamed(long name) {
            for (int i = 0; i < layers.size(); i++) {
                Layer l = layers.get(i);
                if (l.name == name) {
                    return l;
                }
            }
            return null;
        }

        private Service serviceNamed(long name) {
            for (int i = 0; i < services.size(); i++) {
                Service s = services.get(i);
                if (s.name == name) {
                    return s;
                }
            }
            return null;
        }

        private Job jobNamed(long name) {
            for (int i = 0; i < jobs.size(); i++) {
                Job j = jobs.get(i);
                if (j.name == name) {
                    return j;
                }
            }
            return null;
        }

        private Service serviceIn(Layer layer, long name) {
            for (int i = 0; i < services.size(); i++) {
                Service s = services.get(i);
                if (s.layer == layer && s.name == name) {
                    return s;
                }
            }
            return null;
        }

        /** The number of the service that the layer IN USE has by a NAME. */
        int numberInUse(long name) {
            Layer at = inUse;
            for (int k = 0; k < MOST_LAYERS && at != null; k++) {
                Service s = serviceIn(at, name);
                if (s != null) {
                    return s.number;
                }
                at = at.of;
            }
            return 0;
        }

        /** The layer that an answer speaks for, null if there is none. */
        Layer layerFor(int answer) {
            Entry v = firstWithNumber(variants, answer);
            if (v != null) {
                return v.layer;
            }
            for (int i = 0; i < layers.size(); i++) {
                Layer l = layers.get(i);
                if (!isVariant(l)) {
                    return l;
                }
            }
            return null;
        }

        private boolean isVariant(Layer l) {
            for (int i = 0; i < variants.size(); i++) {
                if (variants.get(i).layer == l) {
                    return true;
                }
            }
            return false;
        }

        int countUnlike(Edition other) {
            int count = 0;
            for (int i = 0; i < services.size(); i++) {
                if (!other.hasLike(services.get(i))) {
                    count++;
                }
            }
            return count;
        }

        private boolean hasLike(Service wanted) {
            for (int i = 0; i < services.size(); i++) {
                if (services.get(i).isLike(wanted)) {
                    return true;
                }
            }
            return false;
        }
    }
}
