import java.util.Random;

/** Makes texts of ships and rules, good ones and such with faults, always the same ones for a number. */
final class Texts {
    private final Random random;

    Texts(Random random) {
        this.random = random;
    }

    private int below(int n) {
        return random.nextInt(n);
    }

    private String blank() {
        return below(12) == 0 ? "  " : " ";
    }

    private String loose() {
        return below(12) == 0 ? " " : "";
    }

    String ship() {
        int words = below(4) == 0 ? 1 + below(10) : 1 + below(5);
        int men = below(4) == 0 ? below(9) : 4 + below(5);
        int orders = below(5) == 0 ? below(9) : 2 + below(7);
        int means = Math.min(below(3) == 0 ? below(11) : below(5), words * words);
        StringBuilder all = new StringBuilder(loose() + "ship" + blank() + words);
        boolean[] has = new boolean[100];
        while (men + orders + means > 0) {
            int kind = below(men + orders + means);
            all.append(loose()).append(';').append(loose());
            if (kind < men) {
                men--;
                all.append("man").append(blank()).append(below(words)).append(blank()).append(below(3));
            } else if (kind < men + orders) {
                orders--;
                all.append("order").append(blank()).append(below(4) == 0 ? below(3) : below(100)).append(blank());
                for (int n = 1 + below(below(3) == 0 ? 4 : 2); n > 0; n--) {
                    all.append(below(words));
                }
            } else {
                means--;
                int pair = below(words) * 10 + below(words);
                while (has[pair]) {
                    pair = below(words) * 10 + below(words);
                }
                has[pair] = true;
                all.append("means ").append(pair / 10).append(' ').append(pair % 10).append(' ').append(below(words));
            }
        }
        return cut(all.toString());
    }

    /** A text above 400 bytes loses its last clauses; one clause alone, what is too much. */
    private static String cut(String text) {
        String less = text;
        while (less.length() > 400) {
            less = less.substring(0, less.indexOf(';') < 0 ? 400 : less.lastIndexOf(';'));
        }
        return less;
    }

    String rule() {
        StringBuilder all = new StringBuilder();
        int clauses = below(10) == 0 ? 1 + below(13) : 1 + below(4);
        for (int i = 0; i < clauses; i++) {
            all.append(i == 0 ? "" : ";").append("wake ").append(sum());
            if (below(4) != 0) {
                all.append(" if ").append(test(0));
            }
        }
        return cut(all.toString());
    }

    private String value() {
        String[] letters = {"man", "word", "berth", "hour", "wind", "awake", "sick", "tired", "same", "need", "crew"};
        int kind = below(20);
        if (kind == 0) {
            return String.valueOf(below(100000));
        }
        return kind < 9 ? String.valueOf(below(5)) : letters[below(letters.length)];
    }

    private String sum() {
        StringBuilder all = new StringBuilder(value());
        for (int n = below(3) == 0 ? below(5) : below(3); n > 0; n--) {
            all.append(loose()).append("+-*/%+-".charAt(below(7))).append(loose()).append(value());
        }
        return all.toString();
    }

    private String test(int depth) {
        StringBuilder all = new StringBuilder(fact(depth));
        for (int n = below(3); n > 0; n--) {
            all.append(below(2) == 0 ? " or " : " and ").append(fact(depth));
        }
        return all.toString();
    }

    private String fact(int depth) {
        int kind = below(8);
        if (kind == 0 && depth < 12) {
            return "not " + fact(depth + 1);
        }
        if (kind == 1 && depth < 12) {
            return "[" + test(depth + 1) + loose() + "]";
        }
        String[] signs = {"<", "<=", "=", ">=", ">"};
        return sum() + loose() + signs[below(5)] + loose() + sum();
    }

    /** A text with a byte or two put in, left out or changed. */
    String hurt(String text) {
        StringBuilder all = new StringBuilder(text);
        for (int n = 1 + below(2); n > 0; n--) {
            String signs = " ;0123456789[]<=>+-*/%nmif\u0000\u00ff";
            char sign = signs.charAt(below(signs.length()));
            int place = below(all.length() + 1);
            int kind = below(3);
            if (kind == 0 || place == all.length()) {
                all.insert(place, sign);
            } else if (kind == 1) {
                all.deleteCharAt(place);
            } else {
                all.setCharAt(place, sign);
            }
        }
        if (below(10) == 0) {
            all.setLength(below(all.length() + 1));
        }
        return all.length() > 400 ? all.substring(0, 400) : all.toString();
    }
}
