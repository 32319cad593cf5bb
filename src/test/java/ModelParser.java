import java.util.ArrayList;
import java.util.List;
import java.util.regex.Matcher;
import java.util.regex.Pattern;

/** The TEXTS read a second time, by calls that go down into each other as the grammar does. */
final class ModelParser {
    static final class Fault extends Exception {
        private static final long serialVersionUID = 1;
        final int kind;
        final int place;

        Fault(int kind, int place) {
            this.kind = kind;
            this.place = place;
        }
    }

    private static final Pattern TOKEN = Pattern.compile("[a-zA-Z]+|[0-9]+|[^ \n]");
    private static final List<String> FACTS = List.of("age", "mind", "colour", "hair", "itch", "lent", "cause",
            "weight", "tried", "year");

    private final List<String> tokens = new ArrayList<>();
    private final List<Integer> places = new ArrayList<>();
    private final Model.Bench bench;
    private int at;

    ModelParser(String text, Model.Bench bench) {
        this.bench = bench;
        Matcher m = TOKEN.matcher(text);
        while (m.find()) {
            tokens.add(m.group());
            places.add(m.start());
        }
        tokens.add("");
        places.add(text.length());
    }

    private String token() {
        return tokens.get(at);
    }

    private Fault fault(int kind) {
        return new Fault(kind, places.get(at));
    }

    private boolean takes(String wanted) {
        if (token().equals(wanted)) {
            at++;
            return true;
        }
        return false;
    }

    private void want(String wanted) throws Fault {
        if (!takes(wanted)) {
            throw fault(1);
        }
    }

    private int number(int least, int most, int but) throws Fault {
        if (!token().matches("[0-9]{1,4}")) {
            throw fault(1);
        }
        int n = Integer.parseInt(token());
        if (n < least || n > most || n == but) {
            throw fault(2);
        }
        at++;
        return n;
    }

    private int wig(int but) throws Fault {
        return number(0, bench.wigs.size() - 1, but);
    }

    List<Model.LawLine> law() throws Fault {
        List<Model.LawLine> lines = new ArrayList<>();
        while (!token().isEmpty()) {
            String word = token();
            if (!List.of("counts", "moth", "dies").contains(word)) {
                throw fault(1);
            }
            if (lines.size() == 16) {
                throw fault(3);
            }
            at++;
            Model.Node sum = sum();
            Model.Node when = takes("when") ? any(0) : null;
            want(";");
            lines.add(new Model.LawLine(word, sum, when));
        }
        return lines;
    }

    private Model.Node any(int open) throws Fault {
        Model.Node left = all(open);
        while (takes("or")) {
            Model.Node a = left;
            Model.Node b = all(open);
            left = f -> a.value(f) == 1 || b.value(f) == 1 ? 1 : 0;
        }
        return left;
    }

    private Model.Node all(int open) throws Fault {
        Model.Node left = one(open);
        while (takes("and")) {
            Model.Node a = left;
            Model.Node b = one(open);
            left = f -> a.value(f) == 1 && b.value(f) == 1 ? 1 : 0;
        }
        return left;
    }

    private Model.Node one(int open) throws Fault {
        if (open == 8 && List.of("not", "(").contains(token())) {
            throw fault(3);
        }
        if (takes("not")) {
            Model.Node inner = one(open + 1);
            return f -> inner.value(f) == 1 ? 0 : 1;
        }
        if (takes("(")) {
            Model.Node inner = any(open + 1);
            want(")");
            return inner;
        }
        Model.Node a = sum();
        String sign = token();
        if (!List.of("<", "=", ">").contains(sign)) {
            throw fault(1);
        }
        at++;
        Model.Node b = sum();
        return f -> {
            int c = Integer.compare(a.value(f), b.value(f));
            return (sign.equals("<") ? c < 0 : sign.equals("=") ? c == 0 : c > 0) ? 1 : 0;
        };
    }

    private Model.Node sum() throws Fault {
        Model.Node left = product();
        while (token().equals("+") || token().equals("-")) {
            boolean plus = takes("+");
            if (!plus) {
                at++;
            }
            Model.Node a = left;
            Model.Node b = product();
            left = f -> plus ? a.value(f) + b.value(f) : a.value(f) - b.value(f);
        }
        return left;
    }

    private Model.Node product() throws Fault {
        Model.Node left = unit();
        while (token().equals("*") || token().equals("/")) {
            Model.Node a = left;
            if (takes("*")) {
                Model.Node b = unit();
                left = f -> a.value(f) * b.value(f);
            } else {
                at++;
                int by = number(1, 9999, -1);
                left = f -> a.value(f) / by;
            }
        }
        return left;
    }

    private Model.Node unit() throws Fault {
        String word = token();
        if (FACTS.contains(word)) {
            at++;
            return f -> f.get(word);
        }
        int n = number(0, 9999, -1);
        return f -> n;
    }

    List<Model.Line> lines(int k) throws Fault {
        List<Model.Line> lines = new ArrayList<>();
        while (!token().isEmpty()) {
            String first = k == 3 ? "wig" : "in";
            if (token().equals(first) && lines.size() == 16) {
                throw fault(3);
            }
            want(first);
            lines.add(k == 1 ? hearing() : k == 2 ? loan() : kin());
            want(";");
        }
        return lines;
    }

    private Model.Line hearing() throws Fault {
        int year = number(0, 999, -1);
        want("case");
        int heard = number(0, bench.cases.size() - 1, -1);
        want("before");
        return new Model.Line(year, "case", heard, number(0, bench.judges.size() - 1, -1));
    }

    private Model.Line loan() throws Fault {
        int year = number(0, 999, -1);
        if (takes("wig")) {
            int wig = wig(-1);
            want("on");
            return new Model.Line(year, "on", wig, number(0, bench.judges.size() - 1, -1));
        }
        if (takes("off")) {
            return new Model.Line(year, "off", wig(-1), 0);
        }
        if (takes("comb")) {
            int wig = wig(-1);
            return new Model.Line(year, "comb", wig, number(0, 7, -1));
        }
        want("brush");
        int wig = wig(-1);
        return new Model.Line(year, "brush", wig, number(1, 99, -1));
    }

    private Model.Line kin() throws Fault {
        int wig = wig(-1);
        want("of");
        return new Model.Line(0, "of", wig, wig(wig));
    }
}
