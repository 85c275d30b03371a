/** What the project's tests share: feeding a text, and holding answers against what is due. */
final class Kit {
    private static int wrong = 0;
    private static int asked = 0;

    private Kit() {
    }

    static void due(String call, long got, long want) {
        asked++;
        if (got != want) {
            wrong++;
            if (wrong <= 40) {
                System.out.println(call + " answered " + got + ", due is " + want);
            }
        }
    }

    static void due(String call, boolean got, boolean want) {
        due(call, got ? 1 : 0, want ? 1 : 0);
    }

    static int wrong() {
        return wrong;
    }

    /** Feeds a text as bytes, with zeros up to the next twenty, and cuts these off. */
    static void feed(ChoirShip x, String text) {
        int before = x.count(14);
        for (int i = 0; i < text.length(); i += 20) {
            x.feed(four(text, i), four(text, i + 4), four(text, i + 8), four(text, i + 12), four(text, i + 16));
        }
        due("end for \"" + text + "\"", x.end(before + text.length()), before + text.length());
    }

    static int four(String text, int from) {
        int number = 0;
        for (int i = from; i < from + 4; i++) {
            number = number << 8 | (i < text.length() ? text.charAt(i) & 255 : 0);
        }
        return number;
    }

    static int ship(ChoirShip x, String text) {
        feed(x, text);
        return x.ship();
    }

    static int rule(ChoirShip x, String text) {
        feed(x, text);
        return x.rule();
    }

    static ChoirShip with(String text) {
        ChoirShip x = new ChoirShip();
        int men = ship(x, text);
        due("ship of \"" + text + "\" is read", men >= 0, true);
        return x;
    }

    /** What ship or rule answer for a fault at a place. */
    static int fault(int place, int code) {
        return -2 - (1 + 8 * place + code);
    }

    /** All that can be looked at without a change of it, as one text. */
    static String state(ChoirShip x) {
        StringBuilder all = new StringBuilder();
        for (int what = 0; what <= 14; what++) {
            all.append(x.count(what)).append(' ');
        }
        for (int m = 0; m < x.count(1); m++) {
            for (int what = 0; what <= 6; what++) {
                all.append(x.man(m, what)).append(' ');
            }
        }
        for (int o = 0; o < x.count(2); o++) {
            all.append(x.order(o, 0)).append(' ').append(x.order(o, 2)).append(' ');
        }
        return all.append(x.sayable()).append(' ').append(x.awake(0)).append(' ').append(x.awake(1)).toString();
    }

    /** A call that is due to be refused. */
    interface Call {
        int on(ChoirShip x);
    }

    /** Every one of the calls answers so, and nothing happens by them. */
    static void refused(String name, ChoirShip x, int want, Call... calls) {
        String before = state(x);
        for (int i = 0; i < calls.length; i++) {
            due(name + ", refusal " + i, calls[i].on(x), want);
        }
        String after = state(x);
        due(name + ": it was " + before + " and is " + after, after.equals(before), true);
    }

    static void finish(String name) {
        System.out.println(name + ": " + asked + " answers, " + wrong + " not as due");
        if (wrong != 0) {
            System.exit(1);
        }
    }
}
