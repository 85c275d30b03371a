/** The document's promises one by one, with answers worked out by hand: the ordinary, the edges, the wrong. */
final class PromisesTest {
    /** Four words, four men (two with word 0), three orders; 0 and 1 together mean 3. */
    private static final String FOUR =
        "ship 4;man 0 1;man 1 2;man 2 0;man 0 0;order 5 3;order 9 02;order 2 1;means 0 1 3";

    public static void main(String[] args) {
        newObject();
        feed();
        end();
        ship();
        rule();
        man();
        order();
        means();
        meaning();
        say();
        hour();
        wake();
        sicken();
        die();
        teach();
        turn();
        undo();
        run();
        letters();
        sayable();
        shortest();
        fewest();
        watches();
        boy();
        lacks();
        nearest();
        done();
        awake();
        ask();
        seed();
        voyages();
        count();
        image();
        back();
        Kit.finish("PromisesTest");
    }

    private static void due(String call, int got, int want) {
        Kit.due(call, got, want);
    }

    private static void due(String call, boolean got, boolean want) {
        Kit.due(call, got, want);
    }

    private static void newObject() {
        ChoirShip x = new ChoirShip();
        due("NONE", ChoirShip.NONE, -1);
        for (int what = 0; what <= 14; what++) {
            due("1: count(" + what + ")", x.count(what), what == 10 ? -1 : 0);
        }
        due("1: man", x.man(0, 0), -1);
        due("1: order", x.order(0, 0), -1);
        due("1: means", x.means(0, 0), -1);
        due("1: meaning", x.meaning(0, 1), -1);
        due("1: say", x.say(0, 1), -1);
        due("1: say by the boy", x.say(8, 1), -1);
        due("1: hour", x.hour(), -1);
        due("1: wake", x.wake(0, true), false);
        due("1: sicken", x.sicken(0, 1), -1);
        due("1: die", x.die(0), -1);
        due("1: teach", x.teach(0), -2);
        due("1: turn", x.turn(1), -1);
        due("1: undo", x.undo(), -1);
        due("1: run", x.run(0, 1), -1);
        due("1: sayable", x.sayable(), -1);
        due("1: shortest", x.shortest(0, 0), -1);
        due("1: fewest", x.fewest(1, 0), -1);
        due("1: fewest for no order", x.fewest(0, 0), -1);
        due("1: fewest for no order", x.fewest(0, 1), -1);
        due("1: watches", x.watches(0, 0), -1);
        due("1: boy", x.boy(0), -1);
        due("1: lacks", x.lacks(0, 0), -1);
        due("1: nearest", x.nearest(0, 1, 0), -1);
        due("1: done", x.done(0, true), -2);
        due("1: awake", x.awake(0), -1);
        due("1: ask", x.ask(0), -1);
        due("1: voyages", x.voyages(1, 1, 0, 0), -1);
        due("1: back", x.back(0), -1);
        Kit.rule(x, "wake 1");
        due("1: run without a ship", x.run(0, 1), -1);
    }

    private static void feed() {
        ChoirShip x = new ChoirShip();
        for (int i = 1; i <= 20; i++) {
            due("2: feed", x.feed(0x20202020, 0x20202020, 0x20202020, 0x20202020, 0x20202020), 20 * i);
        }
        due("2: feed full", x.feed(1, 2, 3, 4, 5), -1);
        due("2: full", x.count(14), 400);
        due("2: fault behind 400", x.ship(), Kit.fault(400, 0));
        due("2: empty", x.count(14), 0);
        due("2: feed", x.feed(1, 2, 3, 4, 5), 20);
        x.end(0);
        // Of each number the highest first, bytes above 127 too.
        x.feed(0x73686970, 0x20313b6d, 0x616e2030, 0x20ff8000, 0);
        due("2: the bytes' order", x.ship(), Kit.fault(13, 0));
        for (int i = 0; i < 19; i++) {
            x.feed(0, 0, 0, 0, 0);
        }
        x.end(379);
        x.feed(0, 0, 0, 0, 0);
        due("2: at 399", x.count(14), 399);
        due("2: one too many", x.feed(0, 0, 0, 0, 0), -1);
        x.end(381);
        due("2: at 381", x.feed(0, 0, 0, 0, 0), -1);
        x.end(380);
        due("2: at 380", x.feed(0, 0, 0, 0, 0), 400);
    }

    private static void end() {
        ChoirShip x = new ChoirShip();
        due("3: end of nothing", x.end(0), 0);
        due("3: end above", x.end(1), -1);
        x.feed(0x73686970, 0x20310000, 0, 0, 0);
        due("3: below 0", x.end(-1), -1);
        due("3: above", x.end(21), -1);
        due("3: as it is", x.end(20), 20);
        due("3: less", x.end(6), 6);
        due("3: no more then", x.end(7), -1);
        due("3: the text", x.ship(), 0);
    }

    private static void ship() {
        ChoirShip x = Kit.with(FOUR);
        x.hour();
        x.turn(1);
        x.sicken(0, 3);
        x.die(1);
        x.teach(2);
        x.done(0, true);
        x.seed(77);
        Kit.rule(x, "wake 1");
        due("4: another", Kit.ship(x, "ship 10;man 9 2"), 1);
        int[] want = {10, 1, 0, 0, 1, 0, 0, 1, 1, 0, -1, 0, 0, 77, 0};
        for (int what = 0; what < want.length; what++) {
            due("4: count(" + what + ")", x.count(what), want[what]);
        }
        due("4: sick", x.man(0, 3), 0);
        due("4: tired", x.man(0, 5), 0);
        due("4: no more man 1", x.man(1, 0), -1);
        due("4: no meaning", x.means(0, 1), -2);
        due("4: nothing undone", x.undo(), -1);
        due("4: an empty tape", x.ship(), Kit.fault(0, 0));
        due("4: all stays", x.count(0), 10);
        due("4: all eight", Kit.ship(x, "ship 1" + ";man 0 0".repeat(8)), 8);
        due("4: all awake", x.count(7), 255);
    }

    private static void rule() {
        ChoirShip x = new ChoirShip();
        due("5: the first", Kit.rule(x, "wake 1"), 0);
        due("5: a fault", Kit.rule(x, "wake"), Kit.fault(4, 0));
        due("5: the second", Kit.rule(x, "wake 0"), 1);
        due("5: tape", x.count(14), 0);
        due("5: empty", x.rule(), Kit.fault(0, 0));
        for (int i = 2; i < 6; i++) {
            due("5: more", Kit.rule(x, "wake " + i), i);
        }
        Kit.feed(x, "wake 1");
        due("5: a seventh", x.rule(), -1);
        due("5: the tape as it was", x.count(14), 6);
    }

    private static void man() {
        ChoirShip x = Kit.with(FOUR);
        int[] fresh = {1, 2, 1, 0, 0, 0, 1};
        for (int what = 0; what < 7; what++) {
            due("6: man(1, " + what + ")", x.man(1, what), fresh[what]);
        }
        due("6: what below", x.man(1, -1), -1);
        due("6: what above", x.man(1, 7), -1);
        due("6: man below", x.man(-1, 0), -1);
        due("6: man above", x.man(4, 0), -1);
        due("6: the boy", x.man(8, 0), -1);
        x.teach(1);
        due("6: the boy with a word", x.man(8, 0), -1);
        x.hour();
        x.sicken(1, 2);
        due("6: sick", x.man(1, 3), 2);
        due("6: awake though sick", x.man(1, 2), 1);
        due("6: sick and not heard", x.man(1, 6), 0);
        due("6: tired", x.man(1, 5), 1);
        x.sicken(1, 0);
        due("6: heard again", x.man(1, 6), 1);
        x.turn(2);
        due("6: to lee", x.man(1, 6), 0);
        due("6: not to lee", x.man(0, 6), 1);
        due("6: berth 0", x.man(2, 6), 1);
        x.turn(0);
        x.wake(1, false);
        due("6: asleep", x.man(1, 2), 0);
        due("6: asleep and not heard", x.man(1, 6), 0);
        x.die(1);
        due("6: dead", x.man(1, 4), 1);
        due("6: his word", x.man(1, 0), 1);
    }

    private static void order() {
        ChoirShip x = Kit.with("ship 10;order 99 0909;order 0 7");
        int[] first = {99, 4, 0, 9, 0, 9};
        int[] second = {0, 1, 7, -2, -2, -2};
        for (int what = 0; what < 6; what++) {
            due("7: order(0, " + what + ")", x.order(0, what), first[what]);
            due("7: order(1, " + what + ")", x.order(1, what), second[what]);
        }
        due("7: what below", x.order(0, -1), -1);
        due("7: what above", x.order(0, 6), -1);
        due("7: order above", x.order(2, 0), -1);
        due("7: order below", x.order(-1, 0), -1);
    }

    private static void means() {
        ChoirShip x = Kit.with("ship 10;means 0 9 5;means 9 9 9");
        due("8: means", x.means(0, 9), 5);
        due("8: of itself", x.means(9, 9), 9);
        due("8: turned", x.means(9, 0), -2);
        due("8: nothing", x.means(0, 0), -2);
        due("8: above", x.means(0, 10), -1);
        due("8: above", x.means(10, 0), -1);
        due("8: below", x.means(-1, 0), -1);
        due("8: below", x.means(0, -1), -1);
    }

    private static void meaning() {
        ChoirShip x = Kit.with("ship 4;means 0 1 2;means 1 1 0;means 2 2 3;means 3 3 3");
        due("9: one", x.meaning(3, 1), 13);
        due("9: zeros", x.meaning(0, 5), 100000);
        due("9: a zero first", x.meaning(1, 2), 12);
        // 0 1 1: the first pair is 0 1, so it is 2 1, and not 0 0.
        due("9: the first pair first", x.meaning(11, 3), 121);
        // 0 1 0 1 -> 2 0 1 -> 2 2 -> 3.
        due("9: again and again", x.meaning(101, 4), 13);
        // 1 1 1 -> 0 1 -> 2.
        due("9: on from what it became", x.meaning(111, 3), 12);
        due("9: all to one", x.meaning(33333, 5), 13);
        due("9: n 0", x.meaning(0, 0), -1);
        due("9: n 6", x.meaning(0, 6), -1);
        due("9: no word", x.meaning(4, 1), -1);
        due("9: no word", x.meaning(40, 2), -1);
        due("9: more digits", x.meaning(10, 1), -1);
        due("9: more digits", x.meaning(100000, 5), -1);
        due("9: below 0", x.meaning(-1, 1), -1);
    }

    private static void say() {
        ChoirShip x = Kit.with(FOUR);
        due("10: by meaning", x.say(1, 2), 0);
        due("10: by another of that word", x.say(31, 2), 0);
        due("10: a row", x.say(2, 2), 1);
        due("10: one", x.say(1, 1), 2);
        due("10: no order", x.say(0, 1), -2);
        due("10: turned", x.say(10, 2), -2);
        due("10: acts, the one without an order too", x.count(12), 6);
        due("10: no hour", x.count(5), 0);
        due("10: twice", x.say(11, 2), -1);
        due("10: no man", x.say(4, 1), -1);
        due("10: 9", x.say(9, 1), -1);
        due("10: n 0", x.say(0, 0), -1);
        due("10: n 6", x.say(12345, 6), -1);
        due("10: more digits", x.say(10, 1), -1);
        due("10: below 0", x.say(-1, 1), -1);
        due("10: the boy without a word", x.say(8, 1), -1);
        x.turn(2);
        due("10: not heard", x.say(1, 1), -1);
        due("10: not heard among others", x.say(21, 2), -1);
        due("10: refused is no act", x.count(12), 7);
        x.teach(1);
        due("10: the boy", x.say(8, 1), 2);
        due("10: the boy with another", x.say(8, 2), 0);
        due("10: the boy twice", x.say(88, 2), -1);
        ChoirShip y = Kit.with("ship 2" + ";man 0 0".repeat(6) + ";order 3 1;order 4 1;order 5 0;means 0 0 0");
        y.teach(1);
        due("10: of several the least", y.say(8, 1), 0);
        due("10: five", y.say(54321, 5), 2);
    }

    private static void hour() {
        ChoirShip x = Kit.with(FOUR);
        x.sicken(0, 2);
        x.wake(1, false);
        due("11: one", x.hour(), 1);
        due("11: one less sick", x.man(0, 3), 1);
        due("11: tired though sick", x.man(0, 5), 1);
        due("11: who sleeps is not", x.man(1, 5), 0);
        due("11: two", x.hour(), 2);
        due("11: well", x.man(0, 3), 0);
        x.wake(0, false);
        due("11: tired still", x.man(0, 5), 2);
        x.hour();
        due("11: no more", x.man(0, 5), 0);
        due("11: never below 0", x.man(0, 3), 0);
        Kit.rule(x, "wake 1");
        for (int i = 0; i < 16; i++) {
            x.run(0, 60);
        }
        due("11: far", x.run(0, 36), 999);
        due("11: no further", x.hour(), -1);
        due("11: as it was", x.count(5), 999);
        due("11: no act", x.count(12), 0);
    }

    private static void wake() {
        ChoirShip x = Kit.with(FOUR);
        due("12: awake he is", x.wake(0, true), false);
        due("12: asleep", x.wake(0, false), true);
        due("12: asleep he is", x.wake(0, false), false);
        due("12: awake", x.wake(0, true), true);
        due("12: no man", x.wake(4, false), false);
        due("12: below", x.wake(-1, false), false);
        x.teach(0);
        due("12: the boy", x.wake(8, false), false);
        x.sicken(1, 9);
        due("12: a sick one", x.wake(1, false), true);
        x.die(2);
        due("12: a dead one", x.wake(2, true), false);
        due("12: a dead one", x.wake(2, false), false);
        due("12: acts", x.count(12), 6);
    }

    private static void sicken() {
        ChoirShip x = Kit.with(FOUR);
        due("13: sick", x.sicken(0, 9), 0);
        due("13: less", x.sicken(0, 4), 9);
        due("13: as it is", x.sicken(0, 4), 4);
        due("13: well", x.sicken(0, 0), 4);
        due("13: an act each", x.count(12), 4);
        due("13: above", x.sicken(0, 10), -1);
        due("13: below", x.sicken(0, -1), -1);
        due("13: no man", x.sicken(4, 1), -1);
        due("13: no man", x.sicken(-1, 1), -1);
        due("13: the boy", x.sicken(8, 1), -1);
        x.die(0);
        due("13: dead", x.sicken(0, 1), -1);
        due("13: acts", x.count(12), 5);
    }

    private static void die() {
        ChoirShip x = Kit.with(FOUR);
        due("14: one", x.die(3), 3);
        due("14: once", x.die(3), -1);
        due("14: not awake", x.man(3, 2), 0);
        due("14: awake", x.count(7), 7);
        due("14: dead", x.count(9), 8);
        due("14: no man", x.die(4), -1);
        due("14: no man", x.die(-1), -1);
        due("14: the boy", x.die(8), -1);
        due("14: two", x.die(0), 2);
        due("14: three", x.die(1), 1);
        due("14: all", x.die(2), 0);
        due("14: acts", x.count(12), 4);
        due("14: men", x.count(1), 4);
    }

    private static void teach() {
        ChoirShip x = Kit.with(FOUR);
        due("15: a word", x.teach(3), -1);
        due("15: that he has", x.teach(3), -2);
        due("15: another", x.teach(0), 3);
        due("15: no word", x.teach(4), -2);
        due("15: no word", x.teach(-1), -2);
        due("15: his word", x.count(10), 0);
        due("15: heard", x.count(8), 256 + 15);
        due("15: acts", x.count(12), 2);
        x.turn(1);
        x.wake(1, false);
        due("15: heard always", x.count(8), 256 + 12);
    }

    private static void turn() {
        ChoirShip x = Kit.with(FOUR);
        due("16: as it is", x.turn(0), -1);
        due("16: 1", x.turn(1), 0);
        due("16: heard", x.count(8), 14);
        due("16: 2", x.turn(2), 1);
        due("16: heard", x.count(8), 13);
        due("16: 0", x.turn(0), 2);
        due("16: heard", x.count(8), 15);
        due("16: 3", x.turn(3), -1);
        due("16: -1", x.turn(-1), -1);
        due("16: acts", x.count(12), 3);
    }

    private static void undo() {
        ChoirShip x = Kit.with(FOUR);
        due("17: none", x.undo(), -1);
        x.sicken(0, 2);
        x.hour();
        x.wake(1, false);
        x.die(2);
        x.teach(1);
        x.teach(2);
        x.turn(2);
        x.say(3, 1);
        x.done(0, true);
        x.seed(9);
        due("17: say", x.undo(), 7);
        due("17: wind is", x.count(6), 2);
        due("17: turn", x.undo(), 6);
        due("17: wind was", x.count(6), 0);
        due("17: teach", x.undo(), 5);
        due("17: his word was", x.count(10), 1);
        due("17: teach", x.undo(), 4);
        due("17: no word", x.count(10), -1);
        due("17: die", x.undo(), 3);
        due("17: no one dead", x.count(9), 0);
        due("17: he is awake", x.man(2, 2), 1);
        due("17: wake", x.undo(), 2);
        due("17: awake", x.count(7), 15);
        due("17: hour", x.undo(), 1);
        due("17: hour was", x.count(5), 0);
        due("17: sick was", x.man(0, 3), 2);
        due("17: tired was", x.man(0, 5), 0);
        due("17: sicken", x.undo(), 0);
        due("17: well", x.man(0, 3), 0);
        due("17: none", x.undo(), -1);
        due("17: done stays", x.count(11), 1);
        due("17: x stays", x.count(13), 9);
        for (int i = 0; i < 25; i++) {
            x.hour();
        }
        due("17: twenty", x.count(12), 20);
        for (int i = 19; i >= 0; i--) {
            due("17: undone", x.undo(), i);
        }
        due("17: no more", x.undo(), -1);
        due("17: at", x.count(5), 5);
    }

    private static void run() {
        ChoirShip x = Kit.with(FOUR);
        Kit.rule(x, "wake 1 if man % 2 = hour % 2;wake 0");
        Kit.rule(x, "wake 1 if man = 9");
        Kit.rule(x, "wake 1 - awake");
        due("18: no rule", x.run(3, 1), -1);
        due("18: no rule", x.run(-1, 1), -1);
        due("18: n 0", x.run(0, 0), -1);
        due("18: n 61", x.run(0, 61), -1);
        x.hour();
        due("18: an act", x.count(12), 1);
        due("18: two hours", x.run(0, 2), 3);
        due("18: even ones at hour 2", x.count(7), 5);
        due("18: nothing undone", x.undo(), -1);
        due("18: tired", x.man(0, 5), 1);
        due("18: tired", x.man(1, 5), 0);
        due("18: sixty", x.run(1, 60), 63);
        due("18: no clause: all sleep", x.count(7), 0);
        x.run(2, 1);
        due("18: by numbers, one after another", x.count(7), 1);
        x.die(0);
        x.run(2, 1);
        due("18: the dead sleep on", x.count(7), 2);
        for (int i = 0; i < 15; i++) {
            x.run(0, 60);
        }
        due("18: near the end", x.count(5), 965);
        due("18: above", x.run(0, 35), -1);
        due("18: as it was", x.count(5), 965);
        due("18: to the end", x.run(0, 34), 999);
        due("18: no further", x.run(0, 1), -1);
    }

    private static int wakes(String ship, String rule) {
        ChoirShip x = Kit.with(ship);
        due("a rule", Kit.rule(x, rule), 0);
        x.run(0, 1);
        return x.count(7);
    }

    private static void letters() {
        due("18: man", wakes(FOUR, "wake man - 1"), 12);
        due("18: word", wakes(FOUR, "wake word"), 6);
        due("18: berth", wakes(FOUR, "wake berth"), 3);
        due("18: same", wakes(FOUR, "wake same"), 9);
        due("18: need", wakes(FOUR, "wake 1 if need >= 9"), 13);
        due("18: need of none", wakes("ship 2;man 1 0;order 9 0", "wake 1 if need = 0"), 1);
        due("18: need of meanings is no need", wakes(FOUR, "wake 1 if need = 2"), 2);
        due("18: crew", wakes(FOUR, "wake 1 if crew = 4"), 15);
        due("18: others awake", wakes(FOUR, "wake 1 if awake = 3"), 15);
        due("18: and ahead of or", wakes(FOUR, "wake 1 if man=0 or man=1 and man=2"), 1);
        due("18: and ahead of or", wakes(FOUR, "wake 1 if man=1 and man=2 or man=0"), 1);
        due("18: brackets", wakes(FOUR, "wake 1 if [man=0 or man=1] and man=1"), 2);
        due("18: not", wakes(FOUR, "wake 1 if not man=1 and not [man=2 or man=3]"), 1);
        due("18: not binds one fact", wakes(FOUR, "wake 1 if not man=1 or man=1"), 15);
        due("18: * ahead of +", wakes(FOUR, "wake 1 if 2+3*man=11"), 8);
        due("18: - from the left", wakes(FOUR, "wake 1 if 9-man-man=3"), 8);
        due("18: / from the left", wakes(FOUR, "wake 1 if 24/2/2=6"), 15);
        // 2 to the 63rd goes round to below 0; by 3 towards 0 it is even, its rest is -2.
        due("18: / towards 0", wakes(FOUR, "wake 1 if 65536*65536*65536*32768/3%2=0"), 15);
        due("18: % its rest", wakes(FOUR, "wake 1 if 65536*65536*65536*32768%3=0-2"), 15);
        due("18: % 0", wakes(FOUR, "wake 1 if 7%0=0 and 7/0=0"), 15);
        due("18: signs", wakes(FOUR, "wake 1 if man<1 or man>=3"), 9);
        due("18: signs", wakes(FOUR, "wake 1 if man<=1 and man>0"), 2);
        due("18: the first clause that holds", wakes(FOUR, "wake 0 if man=1;wake 1;wake 0"), 13);
        due("18: above 0 only", wakes(FOUR, "wake man-2"), 8);
        // 65536 * 65536 * 65536 * 65536 is 2 to the 64th: 0. Half of it is below 0.
        due("18: round", wakes(FOUR, "wake 1 if 65536*65536*65536*65536=0"), 15);
        due("18: round", wakes(FOUR, "wake 65536*65536*65536*32768"), 0);
        due("18: round", wakes(FOUR, "wake 65536*65536*65536*32768-1"), 15);
        ChoirShip x = Kit.with(FOUR);
        Kit.rule(x, "wake 1 if sick > 0 or tired > 2");
        Kit.rule(x, "wake 1 if wind = 2 and hour = 4");
        Kit.rule(x, "wake 1 if same = 0 and crew = 3");
        x.sicken(1, 1);
        x.wake(3, false);
        x.hour();
        x.hour();
        x.wake(3, true);
        x.hour();
        x.sicken(3, 1);
        x.wake(1, false);
        due("18: sick or tired", x.run(0, 1), 4);
        due("18: so", x.count(7), 15);
        x.turn(2);
        x.run(1, 1);
        due("18: wind and hour", x.count(7), 15);
        x.die(0);
        x.teach(0);
        x.run(2, 1);
        due("18: same and crew without the dead and the boy", x.count(7), 14);
    }

    private static void sayable() {
        ChoirShip x = Kit.with(FOUR);
        due("19: all", x.sayable(), 7);
        x.wake(1, false);
        due("19: without 1", x.sayable(), 2);
        x.teach(1);
        due("19: by the boy", x.sayable(), 7);
        x.die(2);
        due("19: without 2", x.sayable(), 5);
        x.undo();
        x.sicken(0, 1);
        x.sicken(3, 1);
        due("19: sick", x.sayable(), 4);
        due("19: no orders", Kit.with("ship 1;man 0 0").sayable(), 0);
        // 00 becomes 0 always, so 00 is never said; of two the same the least is said.
        due("19: never left", Kit.with("ship 1;man 0 0;man 0 0;order 1 00;order 1 0;order 2 0;means 0 0 0").sayable(), 2);
        // Five 0s make 1 by 00 -> 2, 22 -> 3, 30 -> 1; that is no row of four.
        String five = "ship 4" + ";man 0 0".repeat(5) + ";order 1 1;means 0 0 2;means 2 0 3;means 3 0 3";
        due("19: not by these", Kit.with(five).sayable(), 0);
        String deep = "ship 5" + ";man 0 0".repeat(5) + ";order 1 4;means 0 0 1;means 1 0 2;means 2 0 3;means 3 0 4";
        // 1 2 4 6 become 0 4 6, and then 7 6; 1 2 3 would be 0 3 and then 5.
        due("19: the first pair first", Kit.with("ship 8;man 1 0;man 2 0;man 4 0;man 6 0"
            + ";order 1 5;means 1 2 0;means 0 3 5;means 4 6 3;means 0 4 7").sayable(), 0);
        due("19: by five", Kit.with(deep).sayable(), 1);
        ChoirShip y = Kit.with(deep);
        y.die(4);
        due("19: not by four", y.sayable(), 0);
        y.teach(0);
        due("19: by the boy as fifth", y.sayable(), 1);
        String six = "ship 6" + ";man 0 0".repeat(6)
            + ";order 1 5;means 0 0 1;means 1 0 2;means 2 0 3;means 3 0 4;means 4 0 5";
        due("19: not by a row of six", Kit.with(six).sayable(), 0);
    }

    private static void row(String name, ChoirShip x, int order, int... want) {
        for (int what = 0; what <= 5; what++) {
            int due = what < want.length ? want[what] : -2;
            due(name + " " + what, x.shortest(order, what), due);
        }
    }

    private static void shortest() {
        ChoirShip x = Kit.with(FOUR);
        row("20: two", x, 0, 2, 0, 1);
        row("20: two", x, 1, 2, 0, 2);
        row("20: one", x, 2, 1, 1);
        x.sicken(0, 1);
        row("20: by another", x, 0, 2, 3, 1);
        x.die(1);
        row("20: none", x, 0, -2);
        x.teach(3);
        row("20: the boy alone", x, 0, 1, 8);
        due("20: what below", x.shortest(0, -1), -1);
        due("20: what above", x.shortest(0, 6), -1);
        due("20: order above", x.shortest(3, 0), -1);
        due("20: order below", x.shortest(-1, 0), -1);
        // Words 1 0 and 0 1 both mean 2: the row that begins with the least man is told.
        ChoirShip y = Kit.with("ship 3;man 1 0;man 0 0;man 1 0;man 0 0;order 1 2;means 0 1 2;means 1 0 2");
        row("20: the first as a row", y, 0, 2, 0, 1);
        y.wake(1, false);
        row("20: the first as a row", y, 0, 2, 0, 3);
        y.wake(0, false);
        row("20: the first as a row", y, 0, 2, 2, 3);
        ChoirShip z = Kit.with("ship 5" + ";man 0 0".repeat(8)
            + ";order 1 4;means 0 0 1;means 1 0 2;means 2 0 3;means 3 0 4");
        row("20: five", z, 0, 5, 0, 1, 2, 3, 4);
        z.teach(1);
        row("20: four with the boy", z, 0, 4, 8, 0, 1, 2);
    }

    private static void fewest() {
        ChoirShip x = Kit.with(FOUR);
        due("21: no order", x.fewest(0, 0), 0);
        due("21: no order", x.fewest(0, 1), 0);
        due("21: all", x.fewest(7, 0), 3);
        due("21: all", x.fewest(7, 1), 7);
        due("21: one", x.fewest(4, 0), 1);
        due("21: one", x.fewest(4, 1), 2);
        x.wake(0, false);
        x.wake(1, false);
        due("21: awake or not", x.fewest(1, 1), 3);
        x.sicken(0, 1);
        due("21: not the sick", x.fewest(1, 1), 10);
        x.turn(2);
        due("21: not to lee", x.fewest(1, 0), -2);
        due("21: not to lee", x.fewest(1, 1), -2);
        x.teach(1);
        due("21: the boy besides", x.fewest(1, 0), 1);
        due("21: the boy besides", x.fewest(1, 1), 8);
        x.teach(3);
        due("21: the boy alone", x.fewest(1, 0), 0);
        due("21: the boy alone", x.fewest(1, 1), 0);
        x.die(2);
        due("21: not the dead", x.fewest(2, 0), -2);
        due("21: above", x.fewest(8, 0), -1);
        due("21: below", x.fewest(-1, 0), -1);
        due("21: what above", x.fewest(1, 2), -1);
        due("21: what below", x.fewest(1, -1), -1);
        due("21: a ship without orders", Kit.with("ship 1;man 0 0").fewest(0, 0), 0);
        due("21: a ship without orders", Kit.with("ship 1;man 0 0").fewest(1, 0), -1);
        ChoirShip z = new ChoirShip();
        z.image(0);
        Kit.ship(z, FOUR);
        z.back(0);
        due("21: without a ship again", z.fewest(0, 0), -1);
        due("21: without a ship again", z.fewest(0, 1), -1);
        // By bits 0 and 3, or by bit 2 alone: fewest goes ahead of least.
        ChoirShip y = Kit.with("ship 3;man 0 0;man 1 0;man 2 0;order 1 2;means 0 1 2");
        due("21: fewest", y.fewest(1, 1), 4);
        due("21: all eight", Kit.with("ship 10;man 0 0;man 1 0;man 2 0;man 3 0;man 4 0;man 5 0;man 6 0;man 7 0"
            + ";order 1 0;order 1 1;order 1 2;order 1 3;order 1 4;order 1 5;order 1 6;order 1 7").fewest(255, 1), 255);
    }

    private static void watches() {
        ChoirShip x = Kit.with("ship 2;man 0 1;man 0 2;man 1 0;man 1 0;man 0 0;order 10 0;order 20 1;order 99 01");
        // Man 0 with 2 or 3: 5 is the least as bits.
        due("22: the first", x.watches(0, 0), 5);
        due("22: the second", x.watches(0, 1), 26);
        due("22: 99", x.watches(99, 0), 5);
        x.sicken(2, 3);
        x.turn(1);
        x.wake(3, false);
        x.teach(1);
        due("22: sick, to lee or asleep", x.watches(50, 0), 5);
        x.die(0);
        due("22: the least man not dead", x.watches(50, 0), 6);
        due("22: the others", x.watches(50, 1), 24);
        x.die(2);
        due("22: there are none", x.watches(50, 0), -2);
        due("22: there are none", x.watches(50, 1), -2);
        due("22: below", x.watches(-1, 0), -1);
        due("22: above", x.watches(100, 0), -1);
        due("22: what below", x.watches(0, -1), -1);
        due("22: what above", x.watches(0, 2), -1);
        ChoirShip y = Kit.with("ship 1;man 0 0;man 0 0;man 0 0;order 50 0");
        due("22: at that need", y.watches(50, 0), 1);
        due("22: at that need", y.watches(50, 1), 6);
        due("22: no order", y.watches(51, 0), 1);
        due("22: no order", y.watches(51, 1), 6);
        due("22: one man", Kit.with("ship 1;man 0 0;order 50 0").watches(0, 0), -2);
        due("22: one man, no order", Kit.with("ship 1;man 0 0").watches(0, 0), 1);
        due("22: one man, no order", Kit.with("ship 1;man 0 0").watches(0, 1), 0);
        withoutMen("22: no men", Kit.with("ship 1"));
        withoutMen("22: no men, an order", Kit.with("ship 1;order 50 0"));
        ChoirShip z = Kit.with("ship 1;man 0 0;man 0 0;order 50 0");
        z.die(0);
        due("22: one is left, no order", z.watches(51, 0), 2);
        due("22: one is left, no order", z.watches(51, 1), 0);
        z.die(1);
        z.teach(0);
        withoutMen("22: all are dead, the boy has a word", z);
        z.undo();
        z.undo();
        due("22: he lives again", z.watches(51, 0), 2);
    }

    /** No set has the least man not dead in it, for any need; what is no need is none still. */
    private static void withoutMen(String name, ChoirShip x) {
        for (int need = 0; need <= 99; need += 33) {
            due(name + " " + need, x.watches(need, 0), -2);
            due(name + " " + need, x.watches(need, 1), -2);
        }
        due(name + " above", x.watches(100, 0), -1);
        due(name + " what above", x.watches(0, 2), -1);
    }

    private static void boy() {
        ChoirShip x = Kit.with(FOUR);
        due("23: none is needed", x.boy(0), 0);
        due("23: all that is", x.boy(1), 16);
        x.wake(1, false);
        due("23: 1", x.boy(0), 1);
        due("23: all", x.boy(1), 16);
        x.teach(0);
        due("23: though he has another", x.boy(0), 1);
        x.wake(2, false);
        due("23: 2 for 9", x.boy(0), 2);
        due("23: 9", x.boy(1), 9);
        x.wake(0, false);
        x.wake(3, false);
        due("23: by him alone", x.boy(0), 3);
        due("23: by him alone", x.boy(1), 5);
        due("23: above", x.boy(2), -1);
        due("23: below", x.boy(-1), -1);
        ChoirShip y = Kit.with("ship 3");
        due("23: no orders", y.boy(0), 0);
        due("23: no orders", y.boy(1), 0);
    }

    private static void lack(String name, ChoirShip x, int order, int... want) {
        for (int what = 0; what <= 2; what++) {
            due(name + " " + what, x.lacks(order, what), what < want.length ? want[what] : -2);
        }
    }

    private static void lacks() {
        ChoirShip x = Kit.with(FOUR);
        lack("24: nothing", x, 0, 0);
        x.wake(1, false);
        lack("24: one", x, 0, 1, 1);
        lack("24: one", x, 2, 1, 1);
        x.wake(2, false);
        x.wake(0, false);
        x.wake(3, false);
        lack("24: the shortest way", x, 0, 1, 3);
        lack("24: two", x, 1, 2, 0, 2);
        x.teach(0);
        lack("24: one with the boy", x, 1, 1, 2);
        lack("24: the least of one", x, 0, 1, 1);
        due("24: what below", x.lacks(0, -1), -1);
        due("24: what above", x.lacks(0, 3), -1);
        due("24: order above", x.lacks(3, 0), -1);
        due("24: order below", x.lacks(-1, 0), -1);
        ChoirShip y = Kit.with("ship 4;man 3 0;order 1 210;order 1 110;order 1 33;order 1 20;means 0 0 2;means 3 1 1");
        lack("24: more than 2", y, 0, -2);
        lack("24: more than 2", y, 1, -2);
        lack("24: another of his word", y, 2, 1, 3);
        lack("24: the lesser first", y, 3, 2, 0, 2);
        // 5 1 3, 6 2 3 or 6 2 5 2: the first of the two words goes ahead.
        lack("24: the first as a row", Kit.with("ship 7;man 5 0;man 6 0;order 1 43;means 5 1 4;means 6 2 4;means 5 2 3"),
            0, 2, 1, 3);
        // 1 5 4 or 3 5 1: of the same first one the second.
        lack("24: the first as a row", Kit.with("ship 6;man 5 0;order 1 34;means 1 5 3;means 5 1 4"), 0, 2, 1, 3);
        due("24: never left", Kit.with("ship 1;man 0 0;order 1 00;means 0 0 0").lacks(0, 0), -2);
        due("24: told before", Kit.with("ship 1;man 0 0;order 1 0;order 1 0").lacks(1, 0), -2);
        // Five men are a row: of 0 1 2 3 all are heard, and to make 3 of five more would be six.
        String six = "ship 6" + ";man 0 0".repeat(4)
            + ";order 1 5;means 0 0 1;means 1 0 2;means 2 0 3;means 3 0 4;means 4 0 5";
        lack("24: a row of five", Kit.with(six), 0, 1, 1);
    }

    private static void near(String name, ChoirShip x, int men, int n, int order, int changes) {
        due(name, x.nearest(men, n, 0), order);
        due(name + ", changes", x.nearest(men, n, 1), changes);
    }

    private static void nearest() {
        ChoirShip x = Kit.with(FOUR);
        near("25: as said", x, 1, 2, 0, 0);
        near("25: one put for another", x, 0, 1, 0, 1);
        near("25: one left out", x, 12, 2, 1, 1);
        near("25: one put in", x, 2, 1, 0, 1);
        near("25: of several the least", x, 30, 2, 1, 1);
        x.wake(1, false);
        near("25: not heard, left out", x, 12, 2, 0, 1);
        near("25: no one heard", x, 1, 1, 0, 1);
        x.die(0);
        near("25: the dead, too", x, 10, 2, 0, 1);
        due("25: the boy without a word", x.nearest(8, 1, 0), -1);
        x.teach(3);
        near("25: the boy", x, 8, 1, 0, 0);
        due("25: twice", x.nearest(22, 2, 0), -1);
        due("25: no man", x.nearest(4, 1, 0), -1);
        due("25: n 0", x.nearest(0, 0, 0), -1);
        due("25: n 6", x.nearest(0, 6, 0), -1);
        due("25: below", x.nearest(-1, 1, 0), -1);
        due("25: more digits", x.nearest(12, 1, 0), -1);
        due("25: what below", x.nearest(1, 1, -1), -1);
        due("25: what above", x.nearest(1, 1, 2), -1);
        ChoirShip y = Kit.with("ship 2;man 0 0");
        near("25: there are none", y, 0, 1, -2, -2);
        ChoirShip z = Kit.with("ship 5;man 1 0;man 2 0;man 3 0;man 4 0;man 0 0;order 1 4321;order 1 2340");
        near("25: a row of five", z, 1234, 5, 1, 1);
        near("25: far", z, 4, 1, 1, 3);
        due("25: no act", z.count(12), 0);
    }

    private static void done() {
        ChoirShip x = Kit.with(FOUR);
        due("26: first", x.done(0, true), 1);
        due("26: the same again", x.done(0, false), 2);
        due("26: no order", x.done(3, true), -2);
        due("26: no order", x.done(-2, true), -2);
        due("26: no act", x.count(12), 0);
        for (int i = 3; i <= 10; i++) {
            due("26: more", x.done(1, true), i);
        }
        due("26: an 11th", x.done(1, true), -2);
        due("26: ten", x.count(11), 10);
        due("26: nothing", x.done(-1, false), 0);
        due("26: nothing", x.count(11), 0);
        due("26: again", x.done(2, true), 1);
    }

    private static void awake() {
        ChoirShip x = Kit.with(FOUR);
        due("27: all sets", x.awake(0), 16);
        due("27: in all", x.awake(1), 0);
        due("27: in none", x.awake(2), 0);
        x.done(2, true);
        due("27: with man 1", x.awake(0), 8);
        due("27: he", x.awake(1), 2);
        x.done(0, false);
        due("27: without any of word 0", x.awake(0), 2);
        due("27: he", x.awake(1), 2);
        due("27: not these", x.awake(2), 9);
        x.done(0, true);
        due("27: no set", x.awake(0), 0);
        due("27: no set", x.awake(1), 0);
        due("27: no set", x.awake(2), 0);
        x.done(-1, true);
        x.done(0, true);
        x.wake(0, false);
        x.sicken(1, 3);
        x.turn(2);
        x.teach(3);
        due("27: asleep, sick or to lee; not by the boy", x.awake(0), 6);
        x.die(3);
        due("27: not the dead", x.awake(0), 2);
        due("27: not the dead", x.awake(1), 3);
        due("27: not the dead", x.awake(2), 0);
        due("27: above", x.awake(3), -1);
        due("27: below", x.awake(-1), -1);
    }

    private static void ask() {
        ChoirShip x = Kit.with(FOUR);
        // Order 0 by 6 of 16, order 1 by 6, order 2 by 8.
        due("28: that which parts in halves", x.ask(0), 2);
        due("28: the greater part", x.ask(1), 8);
        x.done(2, true);
        // Of 8 with man 1: order 0 by 6, order 1 by 3.
        due("28: then", x.ask(0), 1);
        due("28: the greater part", x.ask(1), 5);
        x.done(0, false);
        // Of two (with man 2 or without) none can say 1.
        due("28: of several the least", x.ask(0), 0);
        due("28: all", x.ask(1), 2);
        x.done(0, true);
        due("28: no set", x.ask(0), -2);
        due("28: no set", x.ask(1), -2);
        due("28: above", x.ask(2), -1);
        due("28: below", x.ask(-1), -1);
        due("28: no orders", Kit.with("ship 1;man 0 0").ask(0), -2);
        due("28: no orders", Kit.with("ship 1;man 0 0").ask(1), -2);
    }

    private static void seed() {
        ChoirShip x = new ChoirShip();
        due("29: 0 at first", x.seed(5), 0);
        due("29: was", x.seed(2147483647), 5);
        due("29: below", x.seed(-1), -1);
        due("29: below", x.seed(Integer.MIN_VALUE), -1);
        due("29: is", x.count(13), 2147483647);
        due("29: was", x.seed(0), 2147483647);
        due("29: no act", x.count(12), 0);
    }

    private static void voyages() {
        // x from 0: 12345, 1406932606, 654583775, 1449466924, 229283573: draws 0, 21468, 9988, 22117, 3498.
        ChoirShip x = Kit.with("ship 1;man 0 0;order 7 0");
        // Hours: wind 0, 68 of 100; wind 1 (9988 mod 3), 17 of 100.
        due("30: p 68 wakes", x.voyages(1, 1, 68, 0), 0);
        due("30: p 69 sleeps", x.voyages(1, 1, 69, 0), 1);
        due("30: its need", x.voyages(1, 1, 69, 1), 7);
        due("30: two hours", x.voyages(1, 2, 18, 0), 1);
        due("30: two voyages", x.voyages(2, 1, 18, 0), 1);
        due("30: p 17", x.voyages(2, 1, 17, 0), 0);
        due("30: all sleep", x.voyages(10, 20, 100, 0), 200);
        due("30: all sleep", x.voyages(10, 20, 100, 1), 1400);
        due("30: none sleeps", x.voyages(10, 20, 0, 0), 0);
        due("30: x stays", x.count(13), 0);
        due("30: hour stays", x.count(5), 0);
        due("30: awake stays", x.count(7), 1);
        // To lee at the second hour, when the wind is 1.
        ChoirShip y = Kit.with("ship 1;man 0 1;order 7 0");
        due("30: to lee", y.voyages(1, 1, 0, 0), 0);
        due("30: to lee", y.voyages(1, 2, 0, 0), 1);
        y.sicken(0, 1);
        due("30: sick for an hour", x.sicken(0, 1), 0);
        due("30: well at the second", x.voyages(1, 2, 0, 0), 1);
        due("30: each voyage from now on", x.voyages(2, 2, 0, 0), 2);
        due("30: sick stays", x.man(0, 3), 1);
        x.sicken(0, 0);
        x.teach(0);
        due("30: the boy says it", x.voyages(10, 20, 100, 0), 0);
        x.undo();
        x.die(0);
        due("30: no draw for the dead", x.voyages(1, 3, 0, 0), 3);
        int[][] wrong = {{0, 1, 0, 0}, {11, 1, 0, 0}, {1, 0, 0, 0}, {1, 21, 0, 0},
            {1, 1, -1, 0}, {1, 1, 101, 0}, {1, 1, 0, -1}, {1, 1, 0, 2}};
        for (int[] w : wrong) {
            due("30: without these", x.voyages(w[0], w[1], w[2], w[3]), -1);
        }
        ChoirShip z = Kit.with("ship 1;man 0 1;man 0 2;order 3 0");
        z.die(0);
        z.seed(12345);
        // 21468 mod 3 is 0; 9988 mod 100 is 88; 22117 mod 3 is 1; 3498 mod 100 is 98.
        due("30: from x", z.voyages(1, 2, 89, 0), 1);
        due("30: from x", z.voyages(1, 2, 88, 1), 0);
        due("30: from x", z.voyages(1, 2, 99, 1), 6);
    }

    private static void count() {
        ChoirShip x = Kit.with(FOUR);
        Kit.rule(x, "wake 1");
        x.hour();
        x.turn(1);
        x.die(2);
        x.wake(3, false);
        x.teach(3);
        x.done(0, true);
        x.seed(6);
        x.feed(0, 0, 0, 0, 0);
        int[] want = {4, 4, 3, 1, 1, 1, 1, 3, 256 + 2, 4, 3, 1, 5, 6, 20};
        for (int what = 0; what < want.length; what++) {
            due("31: count(" + what + ")", x.count(what), want[what]);
        }
        due("31: above", x.count(15), -1);
        due("31: below", x.count(-1), -1);
    }

    private static void image() {
        ChoirShip x = new ChoirShip();
        due("32: without a ship", x.image(3), 0);
        due("32: above", x.image(4), -1);
        due("32: below", x.image(-1), -1);
        Kit.ship(x, FOUR);
        x.hour();
        x.hour();
        due("32: the hour", x.image(0), 2);
        due("32: no act, and none lost", x.count(12), 2);
        due("32: undone still", x.undo(), 1);
        due("32: again", x.image(0), 1);
        x.hour();
        due("32: the last", x.back(0), 1);
    }

    private static void back() {
        ChoirShip x = new ChoirShip();
        x.image(3);
        Kit.ship(x, FOUR);
        due("33: never made", x.back(1), -1);
        due("33: above", x.back(4), -1);
        due("33: below", x.back(-1), -1);
        x.hour();
        x.sicken(0, 5);
        x.turn(1);
        x.teach(2);
        x.die(1);
        x.wake(3, false);
        x.done(2, false);
        x.seed(11);
        x.image(0);
        int sayable = x.sayable();
        int sets = x.awake(0);
        due("33: another ship", Kit.ship(x, "ship 1;man 0 0;order 1 0"), 1);
        due("33: its orders", x.sayable(), 1);
        x.image(1);
        Kit.rule(x, "wake 1");
        x.seed(3);
        x.hour();
        x.feed(0, 0, 0, 0, 0);
        due("33: back", x.back(0), 1);
        int[] want = {4, 4, 3, 1, 1, 1, 1, 5, 256 + 4, 2, 2, 1, 0, 11, 20};
        for (int what = 0; what < want.length; what++) {
            due("33: count(" + what + ")", x.count(what), want[what]);
        }
        due("33: sick", x.man(0, 3), 5);
        due("33: tired", x.man(3, 5), 1);
        due("33: sayable", x.sayable(), sayable);
        due("33: sets", x.awake(0), sets);
        due("33: nothing undone", x.undo(), -1);
        x.hour();
        x.sicken(0, 9);
        due("33: back again", x.back(0), 1);
        due("33: as it was", x.man(0, 3), 5);
        due("33: the other", x.back(1), 0);
        due("33: the other's orders", x.sayable(), 1);
        due("33: to none", x.back(3), 0);
        due("33: no ship", x.sayable(), -1);
        due("33: no men", x.count(1), 0);
        x.end(0);
        for (int k = 0; k < 4; k++) {
            due("33: ships", Kit.ship(x, "ship " + (k + 1) + ";man " + k + " 0;order " + k + " " + k), 1);
            x.image(k);
        }
        due("33: a fifth", Kit.ship(x, "ship 9"), 0);
        due("33: a bad one", Kit.ship(x, "ship 8;man 0 0;"), Kit.fault(15, 0));
        due("33: the fifth stays", x.count(0), 9);
        for (int k = 3; k >= 0; k--) {
            x.back(k);
            due("33: each its own", x.count(0), k + 1);
            due("33: each its own", x.man(0, 0), k);
            due("33: each its own", x.boy(1), k);
            due("33: each its own", x.sayable(), 1);
        }
    }
}
