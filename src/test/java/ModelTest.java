import java.util.Random;

/** Runs of calls by chance, on the class and on the model: each answer is the same. */
public final class ModelTest {
    private static final int RUNS = Integer.getInteger("runs", 3000);
    private static final int CALLS = 512;
    private static final long[] FAR = {Long.MAX_VALUE, Long.MIN_VALUE, 1L << 32, 1L << 31, -1L << 31, 1L << 45, 999999L << 32, 5000, 5001, 4999};

    private final Random random;
    private final Texts texts;
    private final DescribeText x = new DescribeText();
    private final Model model = new Model();
    private final StringBuilder log = new StringBuilder();
    private int services;
    private int calls;

    private ModelTest(long seed) {
        random = new Random(seed);
        texts = new Texts(random);
    }

    public static void main(String[] args) {
        long seed = Long.getLong("seed", 20261116);
        for (int run = 0; run < RUNS; run++) {
            new ModelTest(seed + run).run();
        }
        Due.done();
    }

    private int pick(int count) {
        return random.nextInt(count);
    }

    private boolean rarely() {
        return pick(20) == 0;
    }

    private boolean more() {
        calls++;
        return calls <= CALLS;
    }

    private void due(String call, long got, long want) {
        log.append(call).append(' ');
        if (got != want) {
            Due.is(log.toString(), got, want);
        }
    }

    private void run() {
        read(texts.next());
        while (calls < CALLS) {
            int kind = pick(50);
            if (kind == 0 || services == 0 && kind < 20) {
                read(texts.next());
            } else if (kind < 3) {
                answer();
            } else if (kind < 10) {
                encode();
            } else if (kind < 14) {
                job();
            } else {
                oneCall();
            }
        }
    }

    private void read(String text) {
        if (text.length() > 4 * (CALLS - calls - 1)) {
            due("read()", x.read(), model.read());
            services = 0;
            calls++;
            return;
        }
        log.append("[").append(text).append("] ");
        for (int i = 0; i < text.length();) {
            int c = 0;
            // A call's octets may only be 0 if the rest of the text still has calls enough.
            boolean spare = text.length() - i <= 4 * (CALLS - calls - 2);
            for (int k = 0; k < 4; k++) {
                boolean has = i < text.length() && !(spare && rarely());
                c = c << 8 | (has ? text.charAt(i) & 255 : 0);
                i += has ? 1 : 0;
            }
            x.sign(c);
            model.sign(c);
            calls++;
        }
        int want = model.read();
        if (want >= 0) {
            services = want;
            texts.keep();
        }
        due("read()", x.read(), want);
        calls++;
        for (int i = 0; i < 2 + pick(5) && more(); i++) {
            due("ring(" + i + ")", x.ring(i), model.ring(i));
        }
        for (int i = 1; i < 5 && more(); i++) {
            due("compare(" + i + ")", x.compare(i), model.compare(i));
        }
    }

    private void answer() {
        int s = 1 + pick(Math.max(1, services));
        int first = pick(9) == 0 ? pick(256) : 64 + Math.max(0, model.service(s, 1));
        int length = rarely() ? 60 + pick(10) : pick(24);
        // What was told before is filled up, so that another ANSWER begins.
        while (model.answerLength() % 64 != 0 && more()) {
            octet((byte) pick(2));
        }
        for (int i = 0; i <= length && more(); i++) {
            octet((byte) (i == 0 ? first : pick(3) == 0 ? pick(256) : pick(4)));
        }
        for (int p = 1; p <= model.service(s, 2); p++) {
            for (int side = 0; side <= 4 && more(); side++) {
                due("decode(" + s + ", " + p + ", " + side + ")", x.decode(s, p, side), model.decode(s, p, side));
            }
        }
    }

    private void octet(byte b) {
        log.append("octet(").append(b).append(") ");
        x.octet(b);
        model.octet(b);
    }

    private int number(int most) {
        return rarely() ? pick(20) - 2 : 1 + pick(Math.max(1, most));
    }

    private void encode() {
        int s = number(services);
        int p = number(model.service(s, 2));
        long v = pick(4) == 0 ? pick(70000) - 300 : pick(8) == 0 ? FAR[pick(FAR.length)] + pick(3) - 1 : pick(12) - 2;
        if (more()) {
            due("encode(" + s + ", " + p + ", " + v + ")", x.encode(s, p, v), model.encode(s, p, v));
            sent();
        }
    }

    private void job() {
        int name = number(4);
        long steps = pick(3) == 0 ? pick(30) : rarely() ? FAR[pick(FAR.length)] : pick(5002);
        if (more()) {
            due("job(" + name + ", " + steps + ")", x.job(name, steps), model.job(name, steps));
            sent();
        }
    }

    private void sent() {
        int length = model.sentLength();
        out(length);
        out(-1);
        for (int i = 0; i < length && (i < 12 || i == length - 1); i++) {
            out(i);
        }
    }

    private void out(int i) {
        if (more()) {
            int got;
            try {
                got = x.out(i);
            } catch (ArrayIndexOutOfBoundsException e) {
                got = Model.THROWS;
            }
            due("out(" + i + ")", got, model.out(i));
        }
    }

    private void oneCall() {
        int a = number(services);
        int b = number(model.service(a, 2));
        int c = pick(7) - 1;
        int z = pick(10) == 0 ? (int) FAR[pick(FAR.length)] : pick(9) - 1;
        if (!more()) {
            return;
        }
        switch (pick(7)) {
            case 0: due("service(" + a + ", " + c + ")", x.service(a, c), model.service(a, c)); break;
            case 1: due("parameter(" + a + ", " + b + ", " + c + ")", x.parameter(a, b, c), model.parameter(a, b, c)); break;
            case 2: due("decode(" + a + ", " + b + ", " + c + ")", x.decode(a, b, c), model.decode(a, b, c)); break;
            case 3: due("variant(" + z + ")", x.variant(z), model.variant(z)); break;
            case 4: due("compare(" + c + ")", x.compare(c), model.compare(c)); break;
            case 5: due("ring(" + c + ")", x.ring(c), model.ring(c)); break;
            default: due("code(" + z + ")", x.code(z), model.code(z));
        }
    }
}
