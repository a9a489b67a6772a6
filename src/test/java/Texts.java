import java.util.ArrayList;
import java.util.Arrays;
import java.util.Collections;
import java.util.List;
import java.util.Random;

/** Texts by chance: most are right, some nearly so, and many are like the one before. */
final class Texts {
    private static final String[] OTHERS = ("coding octets signed scale plus layer of service param when times code variant job put get add sub mul dup swap"
            + " drop send while { } ; : = / - a b c x 0 1 2 3 4 5 8 191 192 255 256 999999 000001 1000000 1x abcdefghijklm A ! \u0080").split(" ");
    private static final String[] OPS = {"add", "sub", "mul", "dup", "swap", "drop", "send", "dup", "send"};

    private final Random random;
    private final List<String> services = new ArrayList<>();
    private final List<Integer> parameters = new ArrayList<>();
    private List<String> last = new ArrayList<>();
    private List<String> now = new ArrayList<>();
    private int codings;
    private int layers;
    private int opsLeft;

    Texts(Random random) {
        this.random = random;
    }

    private int pick(int count) {
        return random.nextInt(count);
    }

    private boolean rarely() {
        return pick(90) == 0;
    }

    private <T> T one(List<T> row) {
        return row.get(pick(row.size()));
    }

    /** With as many octets as there may be, its tokens told apart by BLANKS. */
    String next() {
        List<String> parts = last.isEmpty() || pick(3) == 0 ? whole() : changed();
        now = parts;
        if (pick(4) == 0) {
            parts = broken(parts);
        }
        StringBuilder text = new StringBuilder();
        for (int i = 0; i < parts.size(); i++) {
            String part = parts.get(i);
            boolean apart = i > 0 && Character.isLetterOrDigit(part.charAt(0)) && Character.isLetterOrDigit(parts.get(i - 1).charAt(0));
            text.append(pick(6) == 0 ? "\n" : rarely() ? "\t\r" : apart && pick(300) > 0 ? " " : "").append(part);
        }
        return text.append(pick(4) == 0 ? "\n" : "").toString();
    }

    /** The text was right, so that the next one may be like it. */
    void keep() {
        last = now;
    }

    private List<String> broken(List<String> parts) {
        List<String> row = new ArrayList<>(parts);
        for (int k = 1 + pick(2); k > 0 && !row.isEmpty(); k--) {
            int at = pick(row.size());
            switch (pick(5)) {
                case 0: row.remove(at); break;
                case 1: row.add(at, OTHERS[pick(OTHERS.length)]); break;
                case 2: row.set(at, OTHERS[pick(OTHERS.length)]); break;
                case 3: row.subList(at, row.size()).clear(); break;
                default: row.add(row.get(at));
            }
        }
        return row;
    }

    /** The last one with some NUMBERS or NAMES instead of others. */
    private List<String> changed() {
        List<String> row = new ArrayList<>(last);
        for (int k = pick(3); k > 0 && !row.isEmpty(); k--) {
            int at = pick(row.size());
            String part = row.get(at);
            if (Character.isDigit(part.charAt(0))) {
                row.set(at, pick(2) == 0 ? "0" + (Integer.parseInt(part) % 10) : String.valueOf(pick(5)));
            } else if (part.matches("[clspj][0-9]+")) {
                row.set(at, part.charAt(0) + String.valueOf(pick(4)));
            } else if (part.equals("signed")) {
                row.remove(at);
            }
        }
        return row;
    }

    private List<String> whole() {
        services.clear();
        parameters.clear();
        codings = 1 + pick(pick(4) == 0 ? 12 : 5);
        layers = 1 + pick(pick(3) == 0 ? 6 : 3);
        List<String> statements = new ArrayList<>();
        for (int i = 0; i < codings; i++) {
            statements.add(coding(rarely() ? pick(codings) : i));
        }
        for (int i = 0; i < layers; i++) {
            statements.add(layer(rarely() ? pick(layers) : i));
        }
        for (int i = pick(5); i > 0; i--) {
            statements.add("code " + (rarely() ? pick(4) : i) + " = " + (pick(2) == 0 ? "n" + i : "l0") + " ;");
        }
        for (int i = pick(5); i > 0; i--) {
            statements.add("variant l" + pick(rarely() ? layers + 1 : layers) + " = " + (rarely() ? pick(4) : i) + " ;");
        }
        for (int i = pick(5) - 1; i >= 0; i--) {
            opsLeft = 36;
            statements.add("job j" + (rarely() ? 0 : i) + " { " + ops(0) + "}");
        }
        Collections.shuffle(statements, random);
        return new ArrayList<>(Arrays.asList(String.join(" ", statements).split(" +")));
    }

    private String value() {
        return (pick(2) == 0 ? "- " : "") + (pick(4) == 0 ? pick(1000000) : pick(5));
    }

    private String coding(int i) {
        String text = "coding c" + i + " = " + (rarely() ? 5 : 1 + pick(pick(2) == 0 ? 1 : 4)) + " octets ";
        switch (pick(4)) {
            case 0: return text + ";";
            case 1: return text + "signed ;";
            case 2: return text + "scale " + value() + " / " + (pick(4) == 0 ? 1 + pick(999999) : 1 + pick(4)) + " plus " + value() + " ;";
            default:
                StringBuilder rows = new StringBuilder();
                for (int k = pick(rarely() ? 11 : 5); k > 0; k--) {
                    rows.append(rarely() ? 1 : k - 1).append(" r").append(pick(4)).append(" ; ");
                }
                return text + "{ " + rows + "}";
        }
    }

    private String layer(int i) {
        int of = rarely() ? pick(layers + 1) : i + 1 + pick(3);
        StringBuilder text = new StringBuilder("layer l" + i + (pick(2) == 0 && (of < layers || rarely()) ? " of l" + of : "") + " { ");
        for (int k = pick(4); k > 0; k--) {
            String name = "s" + (pick(5) == 0 ? k : services.size() + 4);
            text.append("service ").append(name).append(" = ").append(rarely() ? pick(200) : pick(5)).append(" { ");
            int count = rarely() ? pick(10) : pick(7);
            for (int p = 0; p < count; p++) {
                text.append(parameter(p));
            }
            text.append("} ");
            services.add(name);
            parameters.add(count);
        }
        return text + "}";
    }

    private String parameter(int p) {
        String text = "param p" + (rarely() && rarely() ? 0 : p) + " : c" + pick(rarely() && rarely() ? codings + 1 : codings);
        int earlier = pick(rarely() && rarely() ? p + 2 : Math.max(1, p));
        if (p > 0 && pick(4) == 0) {
            return text + " when p" + earlier + " = " + pick(pick(9) == 0 ? 300 : 3) + " ; ";
        }
        return text + (p > 0 && pick(3) == 0 ? " times p" + earlier + " ; " : " ; ");
    }

    private String ops(int depth) {
        StringBuilder text = new StringBuilder(pick(2) == 0 ? "put " + value() + " ; " : "");
        opsLeft -= text.length() == 0 ? 0 : 1;
        for (int i = pick(rarely() ? 40 : 8); i > 0 && (opsLeft > 2 || rarely()); i--) {
            opsLeft--;
            int kind = pick(10);
            if (kind < 4) {
                text.append("put ").append(value()).append(" ; ");
            } else if (kind == 4 && !services.isEmpty()) {
                text.append(get());
            } else if (kind == 5 && (depth < 3 || rarely())) {
                opsLeft -= 3;
                text.append("put ").append(pick(3)).append(" ; while { ").append(ops(depth + 1)).append(pick(3) > 0 ? "put 0 ; } " : "} ");
            } else if (kind == 6 && depth == 0 && rarely()) {
                opsLeft -= 8;
                text.append("put ").append(60 + pick(8)).append(" ; dup ; while { dup ; send ; put 1 ; sub ; dup ; } ");
            } else {
                text.append(OPS[pick(OPS.length)]).append(" ; ");
            }
        }
        return text.toString();
    }

    private String get() {
        int at = pick(services.size());
        int count = parameters.get(at);
        return count == 0 && !rarely() ? "put 1 ; " : "get " + services.get(at) + " p" + pick(Math.max(1, count)) + " ; ";
    }
}
