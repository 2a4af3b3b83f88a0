import java.util.ArrayList;
import java.util.List;
import java.util.Set;

/** The texts of the document for Model: all TOKENS first, then a tree for each EXPR. */
final class ModelText {
    private static final Set<String> TURNS = Set.of("degree", "skill", "far", "reach", "rust", "hour");
    private static final Set<String> COURT = Set.of("points", "flat", "skill", "said", "hour");

    private record Token(String text, int place) {
        boolean word() {
            return !text.isEmpty() && Character.isLowerCase(text.charAt(0));
        }

        boolean number() {
            return !text.isEmpty() && Character.isDigit(text.charAt(0));
        }
    }

    final List<Model.One> people = new ArrayList<>();
    final List<Model.Needle> needles = new ArrayList<>();
    final List<Model.Saying> sayings = new ArrayList<>();
    Model.Expr turns;
    Model.Expr court;
    private final List<Token> tokens = new ArrayList<>();
    private int at;
    private Set<String> values;

    ModelText(String text) {
        for (int i = 0; i < text.length();) {
            char c = text.charAt(i);
            int j = i + 1;
            if (c == 32 || c == 10) {
                i = j;
                continue;
            }
            String like = c >= 'a' && c <= 'z' ? "abcdefghijklmnopqrstuvwxyz" : c >= '0' && c <= '9' ? "0123456789" : "";
            while (j < text.length() && like.indexOf(text.charAt(j)) >= 0) {
                j++;
            }
            boolean known = !like.isEmpty() || ";()+-*/<=".indexOf(c) >= 0;
            tokens.add(new Token(known ? text.substring(i, j) : "?", i));
            i = j;
        }
        tokens.add(new Token("", text.length()));
    }

    private Token now() {
        return tokens.get(at);
    }

    private boolean is(String text) {
        return now().text.equals(text);
    }

    private Model.Fault fault(int kind) {
        return new Model.Fault(kind, now().place);
    }

    void fair() {
        while (!is("")) {
            line();
            if (!is(";")) {
                throw fault(1);
            }
            at++;
        }
    }

    private void line() {
        if (is("one")) {
            one();
        } else if (is("needle")) {
            needle();
        } else if (is("says")) {
            says();
        } else if (is("turns") || is("court")) {
            boolean turning = is("turns");
            if ((turning ? turns : court) != null) {
                throw fault(5);
            }
            at++;
            values = turning ? TURNS : COURT;
            Model.Expr read = expr(0);
            if (turning) {
                turns = read;
            } else {
                court = read;
            }
        } else {
            throw fault(1);
        }
    }

    private int number(int low, int high) {
        if (!now().number()) {
            throw fault(1);
        }
        if (now().text.length() > 4) {
            throw fault(2);
        }
        int n = Integer.parseInt(now().text);
        if (n < low || n > high) {
            throw fault(2);
        }
        at++;
        return n;
    }

    private void one() {
        if (people.size() == 10) {
            throw fault(2);
        }
        at++;
        int x = number(0, 40);
        int y = number(0, 40);
        Model.Place place = new Model.Place(x, y);
        for (Model.One other : people) {
            same(place, other.at());
        }
        people.add(new Model.One(place, number(0, 9)));
    }

    private void same(Model.Place a, Model.Place b) {
        if (a.equals(b)) {
            at--;
            throw fault(4);
        }
    }

    private void needle() {
        if (needles.size() == 6) {
            throw fault(2);
        }
        at++;
        int x = number(0, 40);
        int y = number(0, 40);
        Model.Place place = new Model.Place(x, y);
        for (Model.Needle other : needles) {
            same(place, other.at());
        }
        int reach = number(1, 60);
        needles.add(new Model.Needle(place, reach, number(0, 9)));
    }

    private void says() {
        if (sayings.size() == 16) {
            throw fault(2);
        }
        at++;
        int hour = number(0, 99);
        int who = number(0, 9999);
        if (who >= people.size()) {
            at--;
            throw fault(3);
        }
        int degree = number(0, 9);
        sayings.add(new Model.Saying(hour, who, people.get(who).at(), people.get(who).skill(), degree));
    }

    private Model.Expr expr(int within) {
        if (within == 6 && (now().word() || now().number() || is("("))) {
            throw fault(2);
        }
        Model.Expr left = and(within);
        while (is("or")) {
            at++;
            Model.Expr a = left;
            Model.Expr b = and(within);
            left = v -> a.value(v) != 0 | b.value(v) != 0 ? 1 : 0;
        }
        return left;
    }

    private Model.Expr and(int within) {
        Model.Expr left = not(within, 0);
        while (is("and")) {
            at++;
            Model.Expr a = left;
            Model.Expr b = not(within, 0);
            left = v -> a.value(v) != 0 & b.value(v) != 0 ? 1 : 0;
        }
        return left;
    }

    private Model.Expr not(int within, int nots) {
        if (is("not")) {
            if (nots == 6) {
                throw fault(2);
            }
            at++;
            Model.Expr a = not(within, nots + 1);
            return v -> a.value(v) == 0 ? 1 : 0;
        }
        Model.Expr a = sum(within);
        if (is("<") || is("=")) {
            boolean less = is("<");
            at++;
            Model.Expr b = sum(within);
            return v -> (less ? a.value(v) < b.value(v) : a.value(v) == b.value(v)) ? 1 : 0;
        }
        return a;
    }

    private Model.Expr sum(int within) {
        Model.Expr left = product(within);
        while (is("+") || is("-")) {
            boolean plus = is("+");
            at++;
            Model.Expr a = left;
            Model.Expr b = product(within);
            left = v -> plus ? a.value(v) + b.value(v) : a.value(v) - b.value(v);
        }
        return left;
    }

    private Model.Expr product(int within) {
        Model.Expr left = part(within);
        while (is("*") || is("/")) {
            boolean times = is("*");
            at++;
            Model.Expr a = left;
            Model.Expr b = part(within);
            left = v -> times ? a.value(v) * b.value(v) : b.value(v) == 0 ? 0 : a.value(v) / b.value(v);
        }
        return left;
    }

    private Model.Expr part(int within) {
        if (is("(")) {
            at++;
            Model.Expr inner = expr(within + 1);
            if (!is(")")) {
                throw fault(1);
            }
            at++;
            return inner;
        }
        if (now().word()) {
            String name = now().text;
            if (!values.contains(name)) {
                throw fault(3);
            }
            at++;
            return v -> v.get(name);
        }
        int n = number(0, 9999);
        return v -> n;
    }
}
