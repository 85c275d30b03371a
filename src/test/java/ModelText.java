import java.util.ArrayList;
import java.util.List;
import java.util.Map;
import java.util.TreeMap;

/** A second reading of the two languages, in another way: faults are thrown, tests become trees. */
final class ModelText {
    static final class Fault extends RuntimeException {
        private static final long serialVersionUID = 1L;
        final int value;

        Fault(int place, int code) {
            super("fault", null, false, false);
            value = 1 + 8 * place + code;
        }
    }

    /** A value, a sum, a fact or a test, of what the letters are worth. */
    interface Node {
        long of(Map<String, Long> letters);
    }

    record Clause(Node sum, Node test) {
    }

    static final class Told {
        int words = 0;
        final List<int[]> men = new ArrayList<>();
        final List<int[]> orders = new ArrayList<>();
        final Map<Integer, Integer> means = new TreeMap<>();
    }

    private final String text;
    private int at = 0;
    private int parts = 0;

    private ModelText(String text) {
        this.text = text;
    }

    static Told ship(String text) {
        return new ModelText(text).readShip();
    }

    static List<Clause> rule(String text) {
        return new ModelText(text).readRule();
    }

    private char look() {
        while (at < text.length() && text.charAt(at) == ' ') {
            at++;
        }
        return at < text.length() ? text.charAt(at) : '\uffff';
    }

    private String letters() {
        look();
        int to = at;
        while (to < text.length() && text.charAt(to) >= 'a' && text.charAt(to) <= 'z') {
            to++;
        }
        return text.substring(at, to);
    }

    private String digits() {
        look();
        int to = at;
        while (to < text.length() && text.charAt(to) >= '0' && text.charAt(to) <= '9') {
            to++;
        }
        if (to == at) {
            throw new Fault(at, 0);
        }
        return text.substring(at, to);
    }

    private int number(int least, int most) {
        String all = digits();
        if (all.length() > 5 || Integer.parseInt(all) < least || Integer.parseInt(all) > most) {
            throw new Fault(at, 1);
        }
        at += all.length();
        return Integer.parseInt(all);
    }

    private boolean another() {
        char next = look();
        if (next == '\uffff') {
            return false;
        }
        if (next != ';') {
            throw new Fault(at, 0);
        }
        at++;
        return true;
    }

    private Told readShip() {
        Told told = new Told();
        int clauses = 0;
        do {
            String what = letters();
            if (!List.of("ship", "man", "order", "means").contains(what)) {
                throw new Fault(at, 0);
            }
            boolean tooMany = clauses == 40 || what.equals("ship") != (clauses == 0)
                || what.equals("man") && told.men.size() == 8
                || what.equals("order") && told.orders.size() == 8
                || what.equals("means") && told.means.size() == 10;
            if (tooMany) {
                throw new Fault(at, 4);
            }
            at += what.length();
            clauses++;
            switch (what) {
                case "ship" -> told.words = number(1, 10);
                case "man" -> {
                    int word = number(0, told.words - 1);
                    told.men.add(new int[] {word, number(0, 2)});
                }
                case "order" -> told.orders.add(order(told.words));
                default -> means(told);
            }
        } while (another());
        return told;
    }

    private int[] order(int words) {
        int need = number(0, 99);
        String row = digits();
        if (row.length() > 4) {
            throw new Fault(at, 1);
        }
        int[] order = new int[row.length() + 1];
        order[0] = need;
        for (int i = 0; i < row.length(); i++) {
            order[i + 1] = row.charAt(i) - '0';
            if (order[i + 1] >= words) {
                throw new Fault(at + i, 1);
            }
        }
        at += row.length();
        return order;
    }

    private void means(Told told) {
        int one = number(0, told.words - 1);
        look();
        int place = at;
        int other = number(0, told.words - 1);
        if (told.means.containsKey(one * 10 + other)) {
            throw new Fault(place, 1);
        }
        told.means.put(one * 10 + other, number(0, told.words - 1));
    }

    private List<Clause> readRule() {
        List<Clause> clauses = new ArrayList<>();
        do {
            if (!letters().equals("wake")) {
                throw new Fault(at, 0);
            }
            if (clauses.size() == 12) {
                throw new Fault(at, 4);
            }
            at += 4;
            Node sum = sum();
            Node test = null;
            if (letters().equals("if")) {
                at += 2;
                test = test(0);
            }
            clauses.add(new Clause(sum, test));
        } while (another());
        return clauses;
    }

    private Node test(int depth) {
        Node first = part(depth);
        if (!letters().equals("or")) {
            return first;
        }
        at += 2;
        Node rest = test(depth);
        return l -> first.of(l) != 0 || rest.of(l) != 0 ? 1 : 0;
    }

    private Node part(int depth) {
        Node first = fact(depth);
        if (!letters().equals("and")) {
            return first;
        }
        at += 3;
        Node rest = part(depth);
        return l -> first.of(l) != 0 && rest.of(l) != 0 ? 1 : 0;
    }

    private Node fact(int depth) {
        boolean not = letters().equals("not");
        if (not || look() == '[') {
            if (depth == 10) {
                throw new Fault(at, 2);
            }
            at += not ? 3 : 1;
            if (not) {
                Node inner = fact(depth + 1);
                return l -> inner.of(l) == 0 ? 1 : 0;
            }
            Node inner = test(depth + 1);
            if (look() != ']') {
                throw new Fault(at, 0);
            }
            at++;
            return inner;
        }
        Node left = sum();
        look();
        String sign = null;
        for (String s : List.of("<=", ">=", "<", "=", ">")) {
            if (sign == null && text.startsWith(s, at)) {
                sign = s;
            }
        }
        if (sign == null) {
            throw new Fault(at, 0);
        }
        countPart();
        at += sign.length();
        Node right = sum();
        return compare(sign, left, right);
    }

    private static Node compare(String sign, Node a, Node b) {
        return switch (sign) {
            case "<" -> l -> a.of(l) < b.of(l) ? 1 : 0;
            case "<=" -> l -> a.of(l) <= b.of(l) ? 1 : 0;
            case "=" -> l -> a.of(l) == b.of(l) ? 1 : 0;
            case ">=" -> l -> a.of(l) >= b.of(l) ? 1 : 0;
            default -> l -> a.of(l) > b.of(l) ? 1 : 0;
        };
    }

    private void countPart() {
        if (parts == 60) {
            throw new Fault(at, 3);
        }
        parts++;
    }

    private Node sum() {
        Node all = term();
        for (char c = look(); c == '+' || c == '-'; c = look()) {
            at++;
            Node a = all;
            Node b = term();
            all = c == '+' ? l -> a.of(l) + b.of(l) : l -> a.of(l) - b.of(l);
        }
        return all;
    }

    private Node term() {
        Node all = value();
        for (char c = look(); c == '*' || c == '/' || c == '%'; c = look()) {
            at++;
            Node a = all;
            Node b = value();
            if (c == '*') {
                all = l -> a.of(l) * b.of(l);
            } else if (c == '/') {
                all = l -> b.of(l) == 0 ? 0 : a.of(l) / b.of(l);
            } else {
                all = l -> b.of(l) == 0 ? 0 : a.of(l) % b.of(l);
            }
        }
        return all;
    }

    private Node value() {
        String name = letters();
        if (!name.isEmpty()) {
            if (!List.of("man", "word", "berth", "hour", "wind", "awake", "sick", "tired", "same", "need", "crew")
                .contains(name)) {
                throw new Fault(at, 0);
            }
            countPart();
            at += name.length();
            return l -> l.get(name);
        }
        String all = digits();
        if (all.length() > 5) {
            throw new Fault(at, 1);
        }
        countPart();
        at += all.length();
        long number = Long.parseLong(all);
        return l -> number;
    }
}
