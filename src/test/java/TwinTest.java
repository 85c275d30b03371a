/**
 * Two objects by the same calls, on one of which many more are refused or only ask: behind these the two
 * must not differ in anything, in what IMAGES and RULES hold neither.
 */
final class TwinTest {
    private static final String FIRST = "ship 4;man 0 1;man 1 2;man 2 0;man 0 0;order 5 3;order 9 02;order 2 1;means 0 1 3";
    private static final String SECOND = "ship 3;man 2 2;man 1 1;man 0 0;order 8 21;order 4 0";

    private static final String THIRD = "ship 4;man 3 1;man 1 2;man 2 0;man 0 0;order 5 1;order 9 32;order 2 12;means 3 1 0";

    public static void main(String[] args) {
        differsInNothing("without a ship", 0);
        differsInNothing("with a ship", 1);
        differsInNothing("at hour 999, six rules, ten done", 2);
        Kit.finish("TwinTest");
    }

    private static void differsInNothing(String name, int stage) {
        ChoirShip still = built(stage);
        ChoirShip pressed = built(stage);
        Kit.due(name + ": built alike", Kit.state(pressed).equals(Kit.state(still)), true);
        refuse(pressed, stage);
        question(pressed);
        String[] was = told(still).split("\n");
        String[] is = told(pressed).split("\n");
        Kit.due(name + ": lines", is.length, was.length);
        for (int i = 0; i < Math.min(is.length, was.length); i++) {
            Kit.due(name + ": it is\n" + is[i] + "\nand should be\n" + was[i] + "\nwhich", is[i].equals(was[i]), true);
        }
    }

    private static ChoirShip built(int stage) {
        ChoirShip x = new ChoirShip();
        rule(x, "wake 1 if man % 2 = hour % 2;wake 3 - tired");
        rule(x, "wake need - 4 if not [same > 0 or sick > 0];wake 1 if berth = 1");
        x.seed(41);
        x.image(0);
        if (stage == 0) {
            return x;
        }
        Kit.ship(x, SECOND);
        x.teach(2);
        x.sicken(1, 7);
        x.done(1, true);
        x.image(1);
        Kit.ship(x, FIRST);
        x.seed(77);
        x.die(3);
        x.turn(2);
        x.hour();
        x.done(2, false);
        x.image(2);
        Kit.ship(x, THIRD);
        x.die(3);
        x.hour();
        x.done(0, false);
        x.teach(1);
        x.wake(0, false);
        if (stage == 2) {
            fillUp(x);
        }
        return x;
    }

    private static void rule(ChoirShip x, String text) {
        Kit.due("rule of \"" + text + "\" is read", Kit.rule(x, text) >= 0, true);
    }

    private static void fillUp(ChoirShip x) {
        for (int i = 2; i < 6; i++) {
            rule(x, "wake man - " + i + " + hour % 3");
        }
        for (int i = 0; i < 9; i++) {
            x.done(1, true);
        }
        for (int i = 0; i < 16; i++) {
            x.run(0, 60);
        }
        Kit.due("the last hour", x.run(1, 38), 999);
        x.sicken(0, 5);
        x.turn(1);
        Kit.feed(x, "wake 1");
    }

    private static void refused(String call, int got, int want) {
        Kit.due(call, got, want);
    }

    private static void refuse(ChoirShip x, int stage) {
        refused("end", x.end(401), -1);
        refused("man", x.man(8, 0), -1);
        refused("order", x.order(8, 0), -1);
        refused("means", x.means(0, 10), -1);
        refused("meaning", x.meaning(9, 1), -1);
        refused("say", x.say(3, 1), -1);
        refused("say", x.say(22, 2), -1);
        refused("wake", x.wake(3, true) ? 1 : 0, 0);
        refused("sicken", x.sicken(0, 10), -1);
        refused("sicken", x.sicken(3, 1), -1);
        refused("die", x.die(3), -1);
        refused("teach", x.teach(4), -2);
        refused("turn", x.turn(3), -1);
        refused("run", x.run(6, 1), -1);
        refused("run", x.run(0, 61), -1);
        refused("done", x.done(8, true), -2);
        refused("seed", x.seed(-1), -1);
        refused("image", x.image(4), -1);
        refused("image", x.image(-1), -1);
        refused("back", x.back(3), -1);
        refused("back", x.back(4), -1);
        if (stage == 0) {
            refused("hour", x.hour(), -1);
            refused("undo", x.undo(), -1);
            refused("turn", x.turn(1), -1);
            refused("run", x.run(0, 1), -1);
        }
        if (stage == 2) {
            refused("hour", x.hour(), -1);
            refused("run", x.run(0, 1), -1);
            refused("done", x.done(0, true), -2);
            refused("rule", x.rule(), -1);
        } else {
            badTexts(x);
        }
    }

    /** The tape is empty ahead of these, so that it makes no difference that they leave it so. */
    private static void badTexts(ChoirShip x) {
        refused("ship", Kit.ship(x, "ship 10;man 9 2;order 99 9;means 9 9 9;"), Kit.fault(39, 0));
        refused("rule", Kit.rule(x, "wake 0;wake 5 if 1 = 1 or"), Kit.fault(25, 0));
    }

    private static void question(ChoirShip x) {
        for (int i = -1; i < 9; i++) {
            x.shortest(i, 1);
            x.lacks(i, 0);
            x.fewest(i, 1);
            x.watches(i * 11, 0);
            x.boy(i);
            x.awake(i);
            x.ask(i);
            x.nearest(210, 3, i);
            x.voyages(i, 20, 30, 0);
        }
        x.sayable();
    }

    /** All that there is, the images and what each rule does in them too; it does not leave things as they are. */
    private static String told(ChoirShip x) {
        StringBuilder all = new StringBuilder(whole(x));
        for (int i = 0; i < 3; i++) {
            all.append("\nundo ").append(x.undo()).append(": ").append(whole(x));
        }
        for (int k = 0; k < 4; k++) {
            for (int r = 0; r < x.count(4); r++) {
                all.append("\nback ").append(k).append(' ').append(x.back(k)).append(": ").append(whole(x));
                for (int h = 0; h < 4; h++) {
                    all.append("\nrule ").append(r).append(' ').append(x.run(r, 1)).append(": ").append(whole(x));
                }
            }
        }
        return all.toString();
    }

    private static String whole(ChoirShip x) {
        StringBuilder all = new StringBuilder(Kit.state(x));
        for (int a = 0; a < 4; a++) {
            for (int b = 0; b < 4; b++) {
                all.append(' ').append(x.means(a, b)).append(' ').append(x.order(a, b + 1));
            }
            all.append(' ').append(x.shortest(a, 1)).append(' ').append(x.lacks(a, 1));
        }
        return all.append(' ').append(x.ask(0)).append(' ').append(x.voyages(2, 5, 40, 1)).toString();
    }
}
