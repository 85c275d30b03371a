import java.util.Random;

/** Numbers far outside what is told, in all states: nothing is thrown, and they are refused. */
final class WildTest {
    private static final int[] WILD = {Integer.MIN_VALUE, Integer.MIN_VALUE + 1, -1000000, -3, -2,
        16, 63, 64, 256, 257, 512, 999999, Integer.MAX_VALUE - 1, Integer.MAX_VALUE};

    public static void main(String[] args) {
        ChoirShip x = new ChoirShip();
        refusesAll(x);
        Kit.ship(x, "ship 10;man 9 0;order 5 9;order 6 09;means 9 9 0");
        Kit.rule(x, "wake 1");
        x.teach(3);
        refusesAll(x);
        for (int wild : WILD) {
            refusesBeside(x, wild);
        }
        for (int seed = 1; seed <= 300; seed++) {
            anything(new Random(seed));
        }
        Kit.finish("WildTest");
    }

    private static void refusesAll(ChoirShip x) {
        int acts = x.count(12);
        for (int w : WILD) {
            none("end", w, w >= 0 ? -1 : x.end(w));
            none("man", w, x.man(w, 0));
            none("order", w, x.order(w, 0));
            none("means", w, x.means(w, 0));
            none("means", w, x.means(0, w));
            none("say", w, x.say(w, 1));
            none("say", w, x.say(0, w));
            Kit.due("wake " + w, x.wake(w, true) || x.wake(w, false), false);
            none("sicken", w, x.sicken(w, 1));
            none("die", w, x.die(w));
            Kit.due("teach " + w, x.teach(w), -2);
            none("turn", w, x.turn(w));
            none("run", w, x.run(w, 1));
            none("shortest", w, x.shortest(w, 0));
            none("fewest", w, x.fewest(w, 0));
            none("boy", w, x.boy(w));
            none("lacks", w, x.lacks(w, 0));
            none("nearest", w, x.nearest(w, 1, 0));
            none("nearest", w, x.nearest(0, w, 0));
            Kit.due("done " + w, x.done(w, true), -2);
            none("awake", w, x.awake(w));
            none("ask", w, x.ask(w));
            none("count", w, x.count(w));
            none("image", w, x.image(w));
            none("back", w, x.back(w));
        }
        Kit.due("no act", x.count(12), acts);
    }

    /** The second number wild, the first as it should be. */
    private static void refusesBeside(ChoirShip x, int w) {
        none("man(0, ..)", w, x.man(0, w));
        none("order(0, ..)", w, x.order(0, w));
        none("meaning(0, ..)", w, x.meaning(0, w));
        none("sicken(0, ..)", w, x.sicken(0, w));
        none("run(0, ..)", w, w == 16 ? -1 : x.run(0, w));
        none("shortest(0, ..)", w, x.shortest(0, w));
        none("fewest(0, ..)", w, x.fewest(0, w));
        none("watches(.., 0)", w, w == 16 || w == 63 || w == 64 ? -1 : x.watches(w, 0));
        none("watches(0, ..)", w, x.watches(0, w));
        none("lacks(0, ..)", w, x.lacks(0, w));
        none("nearest(0, 1, ..)", w, x.nearest(0, 1, w));
        none("voyages", w, x.voyages(w, 1, 0, 0));
        none("voyages", w, w == 16 ? -1 : x.voyages(1, w, 0, 0));
        none("voyages", w, w == 16 || w == 63 || w == 64 ? -1 : x.voyages(1, 1, w, 0));
        none("voyages", w, x.voyages(1, 1, 0, w));
        none("seed", w, w >= 0 ? -1 : x.seed(w));
    }

    private static void none(String call, int wild, int got) {
        Kit.due(call + " of " + wild, got, -1);
    }

    private static int number(Random random) {
        int kind = random.nextInt(4);
        if (kind == 0) {
            return WILD[random.nextInt(WILD.length)];
        }
        return kind == 1 ? random.nextInt() : random.nextInt(12) - 2;
    }

    /** Calls with any numbers, on ships that are there: an answer comes, whichever it is. */
    private static void anything(Random random) {
        ChoirShip x = new ChoirShip();
        Texts texts = new Texts(random);
        Kit.ship(x, texts.ship());
        Kit.rule(x, texts.rule());
        for (int i = 0; i < 400; i++) {
            int a = number(random);
            int b = number(random);
            int c = number(random);
            boolean is = random.nextBoolean();
            switch (random.nextInt(33)) {
                case 0 -> x.feed(a, b, c, a, b);
                case 1 -> x.end(a);
                case 2 -> x.ship();
                case 3 -> x.rule();
                case 4 -> x.man(a, b);
                case 5 -> x.order(a, b);
                case 6 -> x.means(a, b);
                case 7 -> x.meaning(a, b);
                case 8 -> x.say(a, b);
                case 9 -> x.hour();
                case 10 -> x.wake(a, is);
                case 11 -> x.sicken(a, b);
                case 12 -> x.die(a);
                case 13 -> x.teach(a);
                case 14 -> x.turn(a);
                case 15 -> x.undo();
                case 16 -> x.run(a, b);
                case 17 -> x.sayable();
                case 18 -> x.shortest(a, b);
                case 19 -> x.fewest(a, b);
                case 20 -> x.watches(a, b);
                case 21 -> x.boy(a);
                case 22 -> x.lacks(a, b);
                case 23 -> x.nearest(a, b, c);
                case 24 -> x.done(a, is);
                case 25 -> x.awake(a);
                case 26 -> x.ask(a);
                case 27 -> x.seed(a);
                case 28 -> x.voyages(a, b, c, 0);
                case 29 -> x.count(a);
                case 30 -> x.image(a);
                case 31 -> x.back(a);
                default -> Kit.due("the hour", x.count(5) >= 0 && x.count(5) <= 999, true);
            }
        }
    }
}
