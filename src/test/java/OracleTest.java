import java.util.Random;

/** Long runs of calls on the class and on the model, whose answers must be the same. */
final class OracleTest {
    private static final int CALLS = 512;

    private final Random random;
    private final Texts texts;
    private final ChoirShip x = new ChoirShip();
    private final Model model = new Model();
    private final String name;
    private int calls = 0;

    private OracleTest(int seed) {
        random = new Random(seed);
        texts = new Texts(random);
        name = "run " + seed;
    }

    public static void main(String[] args) {
        int runs = args.length > 1 ? Integer.parseInt(args[1]) : 250;
        for (int seed = 1; seed <= runs && Kit.wrong() < 20; seed++) {
            new OracleTest(seed).go();
        }
        textsAlone(runs * 80);
        Kit.finish("OracleTest");
    }

    /** Many texts, each to a new reading: what the class and the model answer, and nothing else. */
    private static void textsAlone(int n) {
        Random random = new Random(77);
        Texts texts = new Texts(random);
        for (int i = 0; i < n && Kit.wrong() < 20; i++) {
            ChoirShip x = new ChoirShip();
            Model model = new Model();
            boolean ship = i % 2 == 0;
            String text = ship ? texts.ship() : texts.rule();
            if (random.nextInt(5) != 0) {
                text = texts.hurt(text);
            }
            Kit.feed(x, text);
            feedModel(model, text);
            Kit.due("text \"" + text + "\"", ship ? x.ship() : x.rule(), ship ? model.ship() : model.rule());
            for (int what = 0; what <= 14; what++) {
                Kit.due("count(" + what + ") after \"" + text + "\"", x.count(what), model.count(what));
            }
        }
    }

    private static void feedModel(Model model, String text) {
        int before = model.count(14);
        for (int i = 0; i < text.length(); i += 20) {
            model.feed(Kit.four(text, i), Kit.four(text, i + 4), Kit.four(text, i + 8),
                Kit.four(text, i + 12), Kit.four(text, i + 16));
        }
        model.end(before + text.length());
    }

    private int below(int n) {
        return random.nextInt(n);
    }

    private int about(int n) {
        return below(25) == 0 ? -3 + below(n + 8) : below(Math.max(n, 1));
    }

    private int manish() {
        return about(model.count(1));
    }

    private int orderish() {
        return about(model.count(2));
    }

    private void due(String call, int got, int want) {
        calls++;
        Kit.due(name + ", call " + calls + ": " + call, got, want);
    }

    private void go() {
        if (below(6) != 0) {
            readShip();
            readRule();
        }
        while (calls < CALLS && Kit.wrong() < 20) {
            int kind = below(100);
            if (kind < 4) {
                tape();
            } else if (kind < 34) {
                act();
            } else if (kind < 40) {
                keep();
            } else if (kind < 75) {
                ask();
            } else {
                look();
            }
        }
    }

    private void tape() {
        int kind = below(10);
        if (kind == 0) {
            int a = random.nextInt();
            due("feed", x.feed(a, 1, -1, 7, ~a), model.feed(a, 1, -1, 7, ~a));
        } else if (kind == 1) {
            int n = about(model.count(14) + 1);
            due("end(" + n + ")", x.end(n), model.end(n));
        } else if (kind < 5) {
            readShip();
        } else {
            readRule();
        }
    }

    private void putText(String text) {
        due("end(0)", x.end(0), model.end(0));
        Kit.feed(x, text);
        feedModel(model, text);
        calls += (text.length() + 19) / 20 + 1;
    }

    private void readShip() {
        String text = texts.ship();
        text = below(6) == 0 ? texts.hurt(text) : text;
        putText(text);
        due("ship() of \"" + text + "\"", x.ship(), model.ship());
    }

    private void readRule() {
        String text = texts.rule();
        text = below(6) == 0 ? texts.hurt(text) : text;
        putText(text);
        due("rule() of \"" + text + "\"", x.rule(), model.rule());
    }

    /** A row of n numbers as the calls take it, mostly of men who are there and each once. */
    private int rowOfMen(int n) {
        int row = 0;
        int used = 0;
        for (int i = 0; i < n; i++) {
            int m = below(9);
            for (int tries = 0; tries < 30; tries++) {
                boolean fits = (used >> m & 1) == 0 && (model.count(8) >> m & 1) == 1;
                if (fits || below(40) == 0) {
                    break;
                }
                m = below(10);
            }
            used |= 1 << m;
            row = row * 10 + m;
        }
        return below(30) == 0 ? row * 10 - 5 : row;
    }

    private void act() {
        int a = manish();
        int b = below(12) == 0 ? about(10) : below(4);
        boolean is = below(3) != 0;
        switch (below(12)) {
            case 0, 1 -> {
                int n = below(20) == 0 ? below(8) - 1 : 1 + below(5);
                int men = rowOfMen(Math.max(0, Math.min(n, 5)));
                due("say(" + men + ", " + n + ")", x.say(men, n), model.say(men, n));
            }
            case 2, 3 -> due("hour()", x.hour(), model.hour());
            case 4, 5 -> due("wake(" + a + ", " + is + ")", x.wake(a, is) ? 1 : 0, model.wake(a, is) ? 1 : 0);
            case 6 -> due("sicken(" + a + ", " + b + ")", x.sicken(a, b), model.sicken(a, b));
            case 7 -> {
                int m = below(4) == 0 ? a : -1;
                due("die(" + m + ")", x.die(m), model.die(m));
            }
            case 8 -> {
                int w = about(model.count(0));
                due("teach(" + w + ")", x.teach(w), model.teach(w));
            }
            case 9 -> {
                int w = about(3);
                due("turn(" + w + ")", x.turn(w), model.turn(w));
            }
            case 10 -> {
                int r = about(model.count(4));
                int n = below(3) == 0 ? below(63) - 1 : 1 + below(3);
                due("run(" + r + ", " + n + ")", x.run(r, n), model.run(r, n));
            }
            default -> {
                for (int i = below(below(6) == 0 ? 22 : 3); i >= 0; i--) {
                    due("undo()", x.undo(), model.undo());
                }
            }
        }
        lookAtHands();
    }

    private void lookAtHands() {
        int what = 5 + below(8);
        due("count(" + what + ")", x.count(what), model.count(what));
        int m = manish();
        int of = below(8);
        due("man(" + m + ", " + of + ")", x.man(m, of), model.man(m, of));
    }

    private void keep() {
        int k = about(4);
        switch (below(5)) {
            case 0, 1 -> due("image(" + k + ")", x.image(k), model.image(k));
            case 2 -> due("back(" + k + ")", x.back(k), model.back(k));
            case 3 -> {
                int s = below(8) == 0 ? -below(3) : random.nextInt(Integer.MAX_VALUE);
                due("seed(" + s + ")", x.seed(s), model.seed(s));
            }
            default -> {
                int o = below(20) == 0 ? -1 : orderish();
                boolean said = below(2) == 0;
                due("done(" + o + ", " + said + ")", x.done(o, said), model.done(o, said));
            }
        }
    }

    private void ask() {
        int o = orderish();
        int what = below(20) == 0 ? about(7) : below(2);
        switch (below(11)) {
            case 0 -> due("sayable()", x.sayable(), model.sayable());
            case 1, 2 -> {
                int of = below(7);
                due("shortest(" + o + ", " + of + ")", x.shortest(o, of), model.shortest(o, of));
            }
            case 3 -> {
                int set = below(15) == 0 ? below(600) - 10 : below(1 << model.count(2)) & below(256);
                due("fewest(" + set + ", " + what + ")", x.fewest(set, what), model.fewest(set, what));
            }
            case 4 -> {
                int need = below(15) == 0 ? 97 + below(6) : below(101) - 1;
                due("watches(" + need + ", " + what + ")", x.watches(need, what), model.watches(need, what));
            }
            case 5 -> due("boy(" + what + ")", x.boy(what), model.boy(what));
            case 6 -> {
                int of = about(3);
                due("lacks(" + o + ", " + of + ")", x.lacks(o, of), model.lacks(o, of));
            }
            case 7 -> {
                int n = 1 + below(5);
                int men = rowOfMen(n);
                due("nearest(" + men + ", " + n + ", " + what + ")", x.nearest(men, n, what),
                    model.nearest(men, n, what));
            }
            case 8 -> {
                int of = about(3);
                due("awake(" + of + ")", x.awake(of), model.awake(of));
            }
            case 9 -> due("ask(" + what + ")", x.ask(what), model.ask(what));
            default -> {
                int m = below(20) == 0 ? below(13) : 1 + below(3);
                int n = below(20) == 0 ? below(23) : 1 + below(20);
                int p = below(15) == 0 ? below(110) - 4 : below(100);
                due("voyages(" + m + ", " + n + ", " + p + ", " + what + ")", x.voyages(m, n, p, what),
                    model.voyages(m, n, p, what));
            }
        }
    }

    private void look() {
        int a = about(model.count(0));
        int b = about(model.count(0));
        int what = about(7);
        switch (below(5)) {
            case 0 -> {
                int m = manish();
                due("man(" + m + ", " + what + ")", x.man(m, what), model.man(m, what));
            }
            case 1 -> {
                int o = orderish();
                due("order(" + o + ", " + what + ")", x.order(o, what), model.order(o, what));
            }
            case 2 -> due("means(" + a + ", " + b + ")", x.means(a, b), model.means(a, b));
            case 3 -> {
                int n = below(20) == 0 ? below(9) - 1 : 1 + below(5);
                int words = 0;
                for (int i = 0; i < n; i++) {
                    words = words * 10 + Math.abs(about(model.count(0)) % 10);
                }
                words = below(30) == 0 ? random.nextInt() : words;
                due("meaning(" + words + ", " + n + ")", x.meaning(words, n), model.meaning(words, n));
            }
            default -> {
                int of = about(15);
                due("count(" + of + ")", x.count(of), model.count(of));
            }
        }
    }
}
