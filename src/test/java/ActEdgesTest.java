/** Part II of the terms, promises 6 to 18: a test of its own for each sentence that names an edge. */
final class ActEdgesTest {
    /** Men of words 0 to 3 and 0, berths 0, 1, 2, 0, 1; 0 and 1 together mean 4. */
    private static final String FIVE =
        "ship 5;man 0 0;man 1 1;man 2 2;man 3 0;man 0 1;order 10 4;order 20 23;order 30 3;means 0 1 4";
    private static final String EIGHT = "ship 2" + ";man 0 1".repeat(8) + ";order 99 0000";
    private static final int MOST = Integer.MAX_VALUE;
    private static final int LEAST = Integer.MIN_VALUE;

    public static void main(String[] args) {
        looks();
        says();
        acts();
        undoes();
        runs();
        Kit.finish("ActEdgesTest");
    }

    private static void looks() {
        manIsNoneWithoutThese();
        manOfEachWhat();
        orderIsNoneWithoutThese();
        orderHasSoManyWords();
        meansIsNoneWithoutThese();
        meaningIsNoneWithoutThese();
        meaningOfZeros();
        meaningTakesTheFirstTwo();
        meaningOfTwoAtEachPlace();
        meaningTillNoneHave();
    }

    private static void says() {
        sayIsNoneWithoutThese();
        eachOnce();
        allHeard();
        theBoyOnceHeHasAWord();
        ofSeveralTheLeast();
        anOrderThatHasAMeaningIsNeverSaid();
        aRowOfOneToFive();
        sayIsAnActWithoutAnHour();
    }

    private static void acts() {
        hourIsNoneWithoutAShip();
        hourIs999AtMost();
        sickIsOneLessForEach();
        tiredIsOneMoreOrNone();
        wakeIsRefused();
        sickenIsRefused();
        sickenFor0To9();
        dieIsRefused();
        dieIsForGood();
        teachIsRefused();
        teachEachWord();
        turnIsRefused();
        windTakesThoseToLee();
    }

    private static void undoes() {
        undoIsNoneAtFirst();
        eachActIsUndone();
        theLast20();
        theRingGoesRound();
        refusalsAreNoActs();
        whatIsNoActStays();
    }

    private static void runs() {
        runIsNoneWithoutThese();
        runIs1To60Hours();
        runIsNotAbove999();
        runCantBeUndone();
        aSumAbove0Wakes();
        theFirstClauseThatHolds();
        theDeadAreLeftOut();
        byNumbersOneBehindTheOther();
        lettersOfAMan();
        sumsGoRound();
        testsBind();
    }

    private static void due(String call, int got, int want) {
        Kit.due(call, got, want);
    }

    private static void manIsNoneWithoutThese() {
        Kit.refused("no ship", new ChoirShip(), -1, y -> y.man(0, 0), y -> y.man(8, 0), y -> y.man(-1, 0));
        ChoirShip x = Kit.with(FIVE);
        x.teach(1);
        Kit.refused("man", x, -1, y -> y.man(5, 0), y -> y.man(-1, 0), y -> y.man(7, 6), y -> y.man(8, 0),
            y -> y.man(0, -1), y -> y.man(0, 7), y -> y.man(4, 7), y -> y.man(MOST, 0), y -> y.man(0, LEAST));
        due("the last man", x.man(4, 0), 0);
        ChoirShip eight = Kit.with(EIGHT);
        eight.teach(1);
        due("the eighth man", eight.man(7, 1), 1);
        due("the boy is no man", eight.man(8, 0), -1);
        due("without a man", Kit.with("ship 1").man(0, 0), -1);
    }

    private static void manOfEachWhat() {
        ChoirShip x = Kit.with(FIVE);
        int[] fresh = {2, 2, 1, 0, 0, 0, 1};
        for (int what = 0; what <= 6; what++) {
            due("man(2, " + what + ")", x.man(2, what), fresh[what]);
        }
        x.hour();
        x.sicken(2, 9);
        x.die(2);
        int[] gone = {2, 2, 0, 9, 1, 1, 0};
        for (int what = 0; what <= 6; what++) {
            due("man(2, " + what + "), dead", x.man(2, what), gone[what]);
        }
        x.hour();
        due("of the dead, too, sick is one less", x.man(2, 3), 8);
        due("nor is he tired", x.man(2, 5), 0);
    }

    private static void orderIsNoneWithoutThese() {
        Kit.refused("no ship", new ChoirShip(), -1, y -> y.order(0, 0), y -> y.order(-1, 0), y -> y.order(0, 1));
        Kit.refused("order", Kit.with(FIVE), -1, y -> y.order(3, 0), y -> y.order(-1, 0), y -> y.order(8, 0),
            y -> y.order(0, -1), y -> y.order(0, 6), y -> y.order(2, 6), y -> y.order(LEAST, 0), y -> y.order(0, MOST));
        due("without an order", Kit.with("ship 1").order(0, 0), -1);
        ChoirShip x = Kit.with("ship 1" + ";order 0 0".repeat(7) + ";order 8 00");
        due("the eighth", x.order(7, 0) * 10 + x.order(7, 1), 82);
        due("a ninth", x.order(8, 0), -1);
    }

    private static void orderHasSoManyWords() {
        ChoirShip x = Kit.with("ship 9;order 0 1;order 0 12;order 0 123;order 0 1234");
        for (int o = 0; o < 4; o++) {
            due("words of order " + o, x.order(o, 1), o + 1);
            for (int i = 0; i < 4; i++) {
                due("word " + i + " of order " + o, x.order(o, 2 + i), i <= o ? i + 1 : -2);
            }
        }
    }

    private static void meansIsNoneWithoutThese() {
        Kit.refused("no ship", new ChoirShip(), -1, y -> y.means(0, 0), y -> y.means(-1, -1));
        ChoirShip x = Kit.with(FIVE);
        Kit.refused("means", x, -1, y -> y.means(5, 0), y -> y.means(0, 5), y -> y.means(-1, 1), y -> y.means(0, -1),
            y -> y.means(10, 10), y -> y.means(MOST, 1), y -> y.means(0, LEAST));
        due("a third", x.means(0, 1), 4);
        due("turned: nothing more", x.means(1, 0), -2);
        due("the last: nothing more", x.means(4, 4), -2);
        due("a meaning of the ship there was is gone", Kit.ship(x, "ship 5"), 0);
        due("nothing more", x.means(0, 1), -2);
    }

    private static void meaningIsNoneWithoutThese() {
        Kit.refused("no ship", new ChoirShip(), -1, y -> y.meaning(0, 1), y -> y.meaning(0, 0));
        ChoirShip x = Kit.with(FIVE);
        Kit.refused("meaning", x, -1, y -> y.meaning(0, 0), y -> y.meaning(0, -1), y -> y.meaning(0, 6),
            y -> y.meaning(123, 10), y -> y.meaning(0, MOST), y -> y.meaning(0, LEAST));
        Kit.refused("a digit that is no word", x, -1, y -> y.meaning(5, 1), y -> y.meaning(50000, 5),
            y -> y.meaning(5, 5), y -> y.meaning(44544, 5), y -> y.meaning(9, 2));
        Kit.refused("more digits", x, -1, y -> y.meaning(10, 1), y -> y.meaning(100, 2), y -> y.meaning(1000, 3),
            y -> y.meaning(10000, 4), y -> y.meaning(100000, 5), y -> y.meaning(MOST, 5));
        Kit.refused("below 0", x, -1, y -> y.meaning(-1, 1), y -> y.meaning(LEAST, 5), y -> y.meaning(-44444, 5));
        due("the last of one", x.meaning(4, 1), 14);
        due("the last of five", x.meaning(44444, 5), 144444);
    }

    private static void meaningOfZeros() {
        ChoirShip x = Kit.with(FIVE);
        int behindOne = 1;
        for (int n = 1; n <= 5; n++) {
            behindOne *= 10;
            due("zeros", x.meaning(0, n), behindOne);
            due("zeros ahead of a 2", x.meaning(2, n), behindOne + 2);
        }
    }

    private static void meaningTakesTheFirstTwo() {
        // 0 0 0: the first two become 1, then 1 0 stands; 0 0 0 0 become 1 0 0 and 1 1.
        ChoirShip x = Kit.with("ship 3;means 0 0 1;means 1 1 2");
        due("three", x.meaning(0, 3), 110);
        due("four: 1 0 0, 1 1, 2", x.meaning(0, 4), 12);
        due("five: 2 0", x.meaning(0, 5), 120);
        // 2 0 0 0: the first of those with a meaning stands second.
        due("behind a 2", x.meaning(2000, 4), 1210);
        // 1 0 0: none of 1 0, but 0 0; then 1 1.
        due("what it became is looked at with what stands ahead", x.meaning(100, 3), 12);
    }

    private static void meaningOfTwoAtEachPlace() {
        ChoirShip x = Kit.with("ship 3" + ";man 0 0".repeat(4) + ";man 1 0;man 1 0;order 9 0002;means 1 1 2");
        due("the first two", x.meaning(11000, 5), 12000);
        due("the second", x.meaning(1100, 5), 10200);
        due("the third", x.meaning(110, 5), 10020);
        due("the last two", x.meaning(11, 5), 10002);
        due("two of two", x.meaning(11, 2), 12);
        due("apart", x.meaning(10101, 5), 110101);
        due("said by the last two", x.say(1245, 5), 0);
    }

    private static void meaningTillNoneHave() {
        ChoirShip x = Kit.with("ship 2;means 0 0 0;means 1 1 1;means 0 1 0");
        due("five to one", x.meaning(0, 5), 10);
        due("five to one", x.meaning(11111, 5), 11);
        due("five to one", x.meaning(11, 5), 10);
        due("1 0 has none", x.meaning(11100, 5), 110);
        due("one alone", x.meaning(1, 1), 11);
    }

    private static void sayIsNoneWithoutThese() {
        Kit.refused("no ship", new ChoirShip(), -1, y -> y.say(0, 1), y -> y.say(8, 1), y -> y.say(0, 0));
        ChoirShip x = Kit.with(FIVE);
        Kit.refused("say", x, -1, y -> y.say(0, 0), y -> y.say(0, 6), y -> y.say(0, -1), y -> y.say(43210, 6),
            y -> y.say(5, 1), y -> y.say(9, 1), y -> y.say(15, 2), y -> y.say(7, 1), y -> y.say(10, 1),
            y -> y.say(123, 2), y -> y.say(102341, 5), y -> y.say(-1, 1), y -> y.say(-12, 2), y -> y.say(LEAST, 5),
            y -> y.say(MOST, 5), y -> y.say(0, MOST), y -> y.say(0, LEAST));
        due("without men", Kit.with("ship 1;order 1 0").say(0, 1), -1);
    }

    private static void eachOnce() {
        ChoirShip x = Kit.with(FIVE);
        x.teach(1);
        Kit.refused("twice", x, -1, y -> y.say(0, 2), y -> y.say(11, 2), y -> y.say(121, 3), y -> y.say(88, 2),
            y -> y.say(12340 + 4, 5), y -> y.say(818, 3));
        due("another of the same word", x.say(4012, 4), -2);
    }

    private static void allHeard() {
        ChoirShip x = Kit.with(FIVE);
        due("he is", x.say(3, 1), 2);
        x.wake(3, false);
        Kit.refused("asleep", x, -1, y -> y.say(3, 1), y -> y.say(23, 2), y -> y.say(32, 2));
        x.wake(3, true);
        x.sicken(3, 1);
        Kit.refused("sick", x, -1, y -> y.say(3, 1), y -> y.say(23, 2));
        x.hour();
        due("well again", x.say(23, 2), 1);
        x.turn(2);
        Kit.refused("to lee", x, -1, y -> y.say(2, 1), y -> y.say(23, 2));
        due("another is heard", x.say(3, 1), 2);
        x.turn(1);
        Kit.refused("to lee", x, -1, y -> y.say(1, 1), y -> y.say(4, 1), y -> y.say(1234, 5));
        x.turn(0);
        x.die(3);
        Kit.refused("dead", x, -1, y -> y.say(3, 1), y -> y.say(23, 2));
    }

    private static void theBoyOnceHeHasAWord() {
        ChoirShip x = Kit.with(FIVE);
        Kit.refused("without a word", x, -1, y -> y.say(8, 1), y -> y.say(8, 2), y -> y.say(80, 2));
        x.teach(3);
        due("with one", x.say(8, 1), 2);
        due("behind another", x.say(28, 2), 1);
        x.turn(1);
        due("in any wind", x.say(8, 1), 2);
        for (int m = 0; m < 5; m++) {
            x.die(m);
        }
        due("when all are dead", x.say(8, 1), 2);
        due("heard alone", x.count(8), 256);
        due("a ship without men", Kit.with("ship 1;order 1 0").teach(0), -1);
    }

    private static void ofSeveralTheLeast() {
        ChoirShip x = Kit.with("ship 3;man 0 0;man 1 0;order 1 2;order 9 01;order 5 0;order 9 0;order 1 1;order 9 01");
        due("a row of two", x.say(1, 2), 1);
        due("of one", x.say(0, 1), 2);
        due("of one", x.say(1, 1), 4);
        due("none", x.say(10, 2), -2);
    }

    private static void anOrderThatHasAMeaningIsNeverSaid() {
        ChoirShip x = Kit.with("ship 3;man 0 0;man 1 0;order 1 01;order 1 2;means 0 1 2");
        due("not that with this row, but its meaning's", x.say(1, 2), 1);
        due("apart", x.say(0, 1), -2);
    }

    private static void aRowOfOneToFive() {
        ChoirShip x = Kit.with("ship 2" + ";man 0 0".repeat(6) + ";order 1 0;order 2 00;order 3 000;order 4 0000");
        due("one", x.say(5, 1), 0);
        due("two", x.say(50, 2), 1);
        due("three", x.say(501, 3), 2);
        due("four", x.say(5012, 4), 3);
        due("five", x.say(50123, 5), -2);
        due("six", x.say(501234, 6), -1);
        due("a zero ahead", x.say(12345, 5), -2);
        due("a zero ahead", x.say(123, 4), 3);
    }

    private static void sayIsAnActWithoutAnHour() {
        ChoirShip x = Kit.with(FIVE);
        due("an order", x.say(3, 1), 2);
        due("none", x.say(0, 1), -2);
        due("acts", x.count(12), 2);
        due("no hour", x.count(5), 0);
        due("undone", x.undo(), 1);
        due("undone", x.undo(), 0);
    }

    private static void hourIsNoneWithoutAShip() {
        Kit.refused("no ship", new ChoirShip(), -1, y -> y.hour(), y -> y.hour());
        due("a ship without men", Kit.with("ship 1").hour(), 1);
    }

    /** An object whose hour is so, by a rule that lets all sleep. */
    private static ChoirShip at(int hour) {
        ChoirShip x = Kit.with(FIVE);
        Kit.rule(x, "wake 0");
        for (int left = hour; left > 0; left -= Math.min(left, 60)) {
            x.run(0, Math.min(left, 60));
        }
        due("the hour", x.count(5), hour);
        return x;
    }

    private static void hourIs999AtMost() {
        ChoirShip x = at(998);
        x.wake(0, true);
        x.sicken(1, 3);
        due("999", x.hour(), 999);
        Kit.refused("no further", x, -1, y -> y.hour(), y -> y.hour());
        due("neither more tired", x.man(0, 5), 1);
        due("nor less sick", x.man(1, 3), 2);
        due("undone", x.undo(), 2);
        due("998", x.count(5), 998);
        due("999 again", x.hour(), 999);
        due("other acts go on", x.turn(1), 0);
    }

    private static void sickIsOneLessForEach() {
        ChoirShip x = Kit.with(FIVE);
        x.sicken(0, 1);
        x.sicken(1, 2);
        x.sicken(2, 9);
        int[][] due = {{0, 1, 8}, {0, 0, 7}, {0, 0, 6}};
        for (int h = 0; h < 3; h++) {
            x.hour();
            for (int m = 0; m < 3; m++) {
                due("sick of " + m + " at " + (h + 1), x.man(m, 3), due[h][m]);
            }
        }
        for (int h = 0; h < 6; h++) {
            due("not heard yet", x.man(2, 6), 0);
            x.hour();
        }
        due("heard at last", x.man(2, 6), 1);
    }

    private static void tiredIsOneMoreOrNone() {
        ChoirShip x = Kit.with(FIVE);
        x.sicken(1, 9);
        x.wake(2, false);
        for (int h = 1; h <= 3; h++) {
            x.hour();
            due("awake", x.man(0, 5), h);
            due("awake and sick", x.man(1, 5), h);
            due("asleep", x.man(2, 5), 0);
        }
        x.wake(0, false);
        due("till the hour goes by", x.man(0, 5), 3);
        x.wake(0, true);
        x.hour();
        due("awake on end, by hours", x.man(0, 5), 4);
        x.wake(0, false);
        x.hour();
        due("none", x.man(0, 5), 0);
        x.wake(0, true);
        x.hour();
        due("from 1 on", x.man(0, 5), 1);
    }

    private static int woken(ChoirShip x, int man, boolean is) {
        return x.wake(man, is) ? 1 : 0;
    }

    private static void wakeIsRefused() {
        Kit.refused("no ship", new ChoirShip(), 0, y -> woken(y, 0, true), y -> woken(y, 0, false));
        ChoirShip x = Kit.with(FIVE);
        x.teach(0);
        x.die(4);
        x.wake(3, false);
        Kit.refused("wake", x, 0, y -> woken(y, 0, true), y -> woken(y, 3, false), y -> woken(y, 4, true),
            y -> woken(y, 4, false), y -> woken(y, 5, true), y -> woken(y, 5, false), y -> woken(y, 8, false),
            y -> woken(y, -1, false), y -> woken(y, MOST, false), y -> woken(y, LEAST, false), y -> woken(y, 32, false));
        due("the last who is not dead", woken(x, 3, true), 1);
        ChoirShip eight = Kit.with(EIGHT);
        due("the eighth", woken(eight, 7, false), 1);
        due("awake", eight.count(7), 127);
        due("a ninth", woken(eight, 8, false), 0);
    }

    private static void sickenIsRefused() {
        Kit.refused("no ship", new ChoirShip(), -1, y -> y.sicken(0, 1), y -> y.sicken(0, 0));
        ChoirShip x = Kit.with(FIVE);
        x.teach(0);
        x.die(4);
        Kit.refused("sicken", x, -1, y -> y.sicken(0, -1), y -> y.sicken(0, 10), y -> y.sicken(0, MOST),
            y -> y.sicken(0, LEAST), y -> y.sicken(4, 1), y -> y.sicken(4, 0), y -> y.sicken(5, 1),
            y -> y.sicken(-1, 1), y -> y.sicken(8, 1), y -> y.sicken(MOST, 1), y -> y.sicken(LEAST, 1));
    }

    private static void sickenFor0To9() {
        ChoirShip x = Kit.with(FIVE);
        due("0 of a well one", x.sicken(1, 0), 0);
        due("an act", x.count(12), 1);
        for (int n = 1; n <= 9; n++) {
            due("it was", x.sicken(1, n), n - 1);
            due("it is", x.man(1, 3), n);
            due("not heard", x.man(1, 6), 0);
        }
        due("so it is", x.sicken(1, 9), 9);
        due("well", x.sicken(1, 0), 9);
        due("heard", x.man(1, 6), 1);
        due("acts", x.count(12), 12);
    }

    private static void dieIsRefused() {
        Kit.refused("no ship", new ChoirShip(), -1, y -> y.die(0));
        ChoirShip x = Kit.with(FIVE);
        x.teach(0);
        x.die(2);
        Kit.refused("die", x, -1, y -> y.die(2), y -> y.die(5), y -> y.die(-1), y -> y.die(8), y -> y.die(MOST),
            y -> y.die(LEAST));
        ChoirShip eight = Kit.with(EIGHT);
        for (int m = 7; m >= 0; m--) {
            due("left", eight.die(m), m);
        }
        due("all", eight.count(9), 255);
        Kit.refused("all are dead", eight, -1, y -> y.die(0), y -> y.die(7));
    }

    private static void dieIsForGood() {
        ChoirShip x = Kit.with(FIVE);
        Kit.rule(x, "wake 1");
        x.hour();
        due("four left", x.die(0), 4);
        due("not awake", x.man(0, 2), 0);
        due("not heard", x.man(0, 6), 0);
        due("his word stays", x.man(0, 0), 0);
        x.hour();
        due("dead still", x.man(0, 4), 1);
        x.run(0, 2);
        due("dead still", x.man(0, 4), 1);
        due("not awake", x.count(7), 30);
        due("men", x.count(1), 5);
    }

    private static void teachIsRefused() {
        Kit.refused("no ship", new ChoirShip(), -2, y -> y.teach(0), y -> y.teach(-1));
        ChoirShip x = Kit.with(FIVE);
        Kit.refused("no word", x, -2, y -> y.teach(5), y -> y.teach(-1), y -> y.teach(10), y -> y.teach(MOST),
            y -> y.teach(LEAST));
        x.teach(4);
        Kit.refused("he has it", x, -2, y -> y.teach(4), y -> y.teach(-1), y -> y.teach(5));
    }

    private static void teachEachWord() {
        ChoirShip x = Kit.with("ship 10");
        for (int w = 0; w <= 9; w++) {
            due("he had", x.teach(w), w - 1);
            due("he has", x.count(10), w);
        }
        due("back to the first", x.teach(0), 9);
        due("acts", x.count(12), 11);
        for (int w = 9; w >= 0; w--) {
            x.undo();
            due("he has", x.count(10), w);
        }
        x.undo();
        due("none", x.count(10), -1);
        due("not heard then", x.count(8), 0);
    }

    private static void turnIsRefused() {
        Kit.refused("no ship", new ChoirShip(), -1, y -> y.turn(0), y -> y.turn(1), y -> y.turn(2));
        ChoirShip x = Kit.with(FIVE);
        for (int wind = 0; wind <= 2; wind++) {
            int is = wind;
            Kit.refused("turn", x, -1, y -> y.turn(is), y -> y.turn(3), y -> y.turn(-1), y -> y.turn(MOST),
                y -> y.turn(LEAST));
            due("it was", x.turn((wind + 1) % 3), wind);
        }
        due("to and fro", x.turn(2), 0);
        due("to and fro", x.turn(1), 2);
    }

    private static void windTakesThoseToLee() {
        ChoirShip x = Kit.with(FIVE);
        due("none", x.count(8), 31);
        x.turn(1);
        due("berth 1", x.count(8), 13);
        x.turn(2);
        due("berth 2", x.count(8), 27);
        x.turn(0);
        due("none, berth 0 is heard", x.count(8), 31);
        due("awake all along", x.count(7), 31);
    }

    private static void undoIsNoneAtFirst() {
        Kit.refused("a new object", new ChoirShip(), -1, y -> y.undo());
        Kit.refused("a new ship", Kit.with(FIVE), -1, y -> y.undo(), y -> y.undo());
    }

    private static void undone(String name, Kit.Call act) {
        ChoirShip x = Kit.with(FIVE);
        x.sicken(1, 3);
        x.hour();
        x.teach(2);
        String before = Kit.state(x);
        act.on(x);
        due(name + " is an act", x.count(12), 4);
        due(name + " is undone", x.undo(), 3);
        String after = Kit.state(x);
        Kit.due(name + ": it was " + before + " and is " + after, after.equals(before), true);
    }

    private static void eachActIsUndone() {
        undone("say", x -> x.say(0, 1));
        undone("hour", x -> x.hour());
        undone("wake", x -> woken(x, 0, false));
        undone("sicken", x -> x.sicken(1, 8));
        undone("die", x -> x.die(1));
        undone("teach", x -> x.teach(3));
        undone("turn", x -> x.turn(1));
    }

    private static void theLast20() {
        ChoirShip x = Kit.with(FIVE);
        for (int n = 1; n <= 25; n++) {
            x.hour();
            due("can be undone", x.count(12), Math.min(n, 20));
        }
        for (int n = 19; n >= 0; n--) {
            due("more", x.undo(), n);
            due("hour", x.count(5), 5 + n);
        }
        Kit.refused("the first five can't", x, -1, y -> y.undo());
        ChoirShip y = Kit.with(FIVE);
        for (int n = 1; n <= 20; n++) {
            y.hour();
        }
        for (int n = 19; n >= 0; n--) {
            y.undo();
        }
        due("of twenty all", y.count(5), 0);
    }

    /** So many acts with some undone between them that a row of 20 is gone round several times. */
    private static void theRingGoesRound() {
        ChoirShip x = Kit.with(FIVE);
        int hour = 0;
        for (int round = 0; round < 9; round++) {
            for (int i = 0; i < 7; i++) {
                x.hour();
            }
            for (int i = 0; i < 2; i++) {
                x.undo();
            }
            hour += 5;
            due("hour", x.count(5), hour);
        }
        due("can be undone", x.count(12), 18);
        for (int i = 17; i >= 0; i--) {
            hour--;
            due("more", x.undo(), i);
            due("hour", x.count(5), hour);
            due("tired", x.man(0, 5), hour);
        }
        due("no more", x.undo(), -1);
    }

    private static void refusalsAreNoActs() {
        ChoirShip x = Kit.with(FIVE);
        x.turn(1);
        Kit.refused("each", x, -1, y -> y.say(0, 6), y -> y.sicken(5, 1), y -> y.die(5), y -> y.teach(5) + 1,
            y -> y.turn(1), y -> woken(y, 0, true) - 1, y -> y.run(0, 1));
        due("that one can be", x.undo(), 0);
    }

    private static void whatIsNoActStays() {
        ChoirShip x = Kit.with(FIVE);
        x.hour();
        x.done(1, true);
        x.seed(9);
        x.image(1);
        Kit.rule(x, "wake 1");
        x.feed(0, 0, 0, 0, 0);
        due("one act", x.count(12), 1);
        due("undone", x.undo(), 0);
        due("done stays", x.count(11), 1);
        due("x stays", x.count(13), 9);
        due("rules stay", x.count(4), 1);
        due("bytes stay", x.count(14), 20);
        due("the image stays", x.back(1), 1);
    }

    private static void runIsNoneWithoutThese() {
        ChoirShip none = new ChoirShip();
        Kit.refused("no ship, no rule", none, -1, y -> y.run(0, 1));
        Kit.rule(none, "wake 1");
        Kit.refused("no ship", none, -1, y -> y.run(0, 1), y -> y.run(0, 60));
        ChoirShip x = Kit.with(FIVE);
        x.hour();
        Kit.refused("no rule", x, -1, y -> y.run(0, 1));
        Kit.rule(x, "wake 0");
        Kit.refused("run", x, -1, y -> y.run(1, 1), y -> y.run(-1, 1), y -> y.run(5, 1), y -> y.run(6, 1),
            y -> y.run(MOST, 1), y -> y.run(LEAST, 1), y -> y.run(0, 0), y -> y.run(0, -1), y -> y.run(0, 61),
            y -> y.run(0, MOST), y -> y.run(0, LEAST));
        due("what was done can be undone still", x.undo(), 0);
    }

    private static void runIs1To60Hours() {
        ChoirShip x = Kit.with(FIVE);
        Kit.rule(x, "wake 1");
        due("one", x.run(0, 1), 1);
        due("sixty", x.run(0, 60), 61);
        due("tired", x.man(0, 5), 61);
        due("a ship without men", Kit.ship(x, "ship 1"), 0);
        due("by the rule that stays", x.run(0, 60), 60);
    }

    private static void runIsNotAbove999() {
        ChoirShip x = at(939);
        due("to 999", x.run(0, 60), 999);
        Kit.refused("no further", x, -1, y -> y.run(0, 1), y -> y.run(0, 60));
        ChoirShip z = at(940);
        z.turn(1);
        Kit.refused("above", z, -1, y -> y.run(0, 60));
        due("to 999", z.run(0, 59), 999);
    }

    private static void runCantBeUndone() {
        ChoirShip x = Kit.with(FIVE);
        Kit.rule(x, "wake man");
        x.turn(1);
        x.hour();
        due("two", x.count(12), 2);
        due("run", x.run(0, 1), 2);
        Kit.refused("nothing done ahead of it", x, -1, y -> y.undo());
        due("what is done behind it", x.turn(2), 1);
        due("can", x.undo(), 0);
        due("as far as that", x.count(6), 1);
        due("no further", x.undo(), -1);
        due("the hour is as it was", x.count(5), 2);
    }

    /** Who is awake after an hour by a rule, all having been so, man 4 dead, man 2 sick for 5. */
    private static int by(String rule) {
        ChoirShip x = Kit.with(FIVE);
        due("rule " + rule, Kit.rule(x, rule), 0);
        x.hour();
        x.turn(2);
        x.die(4);
        x.sicken(2, 5);
        x.run(0, 1);
        return x.count(7);
    }

    private static void aSumAbove0Wakes() {
        due("1", by("wake 1"), 15);
        due("0", by("wake 0"), 0);
        due("below", by("wake 0-1"), 0);
        due("the least", by("wake 0-99999*99999"), 0);
        due("man - 1", by("wake man - 1"), 12);
        due("2 - man", by("wake 2 - man"), 3);
    }

    private static void theFirstClauseThatHolds() {
        due("none holds: 0", by("wake 1 if 1=2"), 0);
        due("none holds: 0", by("wake 1 if man=1;wake 5 if man=3"), 10);
        due("the first", by("wake 0 if man=1;wake 1 if man<3;wake 0"), 5);
        due("that without a test", by("wake 0;wake 1"), 0);
        due("that without a test", by("wake 1;wake 0"), 15);
        due("its sum, not a later one's", by("wake 0-1 if 1=1;wake 1"), 0);
        due("the twelfth", by("wake 1 if 1=2;".repeat(11) + "wake 1"), 15);
    }

    private static void theDeadAreLeftOut() {
        due("he sleeps on", by("wake 1 if man=4"), 0);
        due("crew", by("wake 1 if crew=4"), 15);
        due("same, without him", by("wake 1 if same=0"), 15);
        due("others awake, without him", by("wake 1 if awake=3"), 15);
    }

    private static void byNumbersOneBehindTheOther() {
        // Man 0 has three others and sleeps; then each has two.
        due("one has gone to sleep", by("wake 1 if awake=2"), 14);
        due("each goes to sleep but the last", by("wake 1-awake"), 8);
    }

    private static void lettersOfAMan() {
        due("man", by("wake 1 if man=3"), 8);
        due("word", by("wake 1 if word=3"), 8);
        due("berth", by("wake 1 if berth=2"), 4);
        due("hour", by("wake 1 if hour=1"), 15);
        due("wind", by("wake 1 if wind=2"), 15);
        due("sick", by("wake 1 if sick=5"), 4);
        due("well", by("wake 1 if sick=0"), 11);
        due("tired", by("wake 1 if tired=1"), 15);
        due("need of 23 and of 3", by("wake 1 if need=30"), 8);
        due("need of 23", by("wake 1 if need=20"), 4);
        due("without", by("wake 1 if need=0"), 3);
        ChoirShip needs = Kit.with("ship 4;man 0 0;man 1 0;man 2 0;man 3 0;order 30 1110" + ";order 20 1".repeat(6)
            + ";order 40 1112");
        Kit.rule(needs, "wake 1 if need=30");
        Kit.rule(needs, "wake 1 if need=40");
        Kit.rule(needs, "wake 1 if need=0");
        needs.run(0, 1);
        due("the first order's fourth word", needs.count(7), 1);
        needs.run(1, 1);
        due("the eighth order, the greatest", needs.count(7), 6);
        needs.run(2, 1);
        due("without", needs.count(7), 8);
        ChoirShip x = Kit.with("ship 2;man 0 0;man 0 0;man 0 0;man 1 0;order 0 1");
        Kit.rule(x, "wake 1 if same=2");
        Kit.rule(x, "wake 1 if need=0 and same=0");
        x.run(0, 1);
        due("others of his word", x.count(7), 7);
        x.teach(1);
        x.run(1, 1);
        due("a need of 0, and not the boy", x.count(7), 8);
    }

    private static boolean holds(String test) {
        return by("wake 1 if " + test) == 15;
    }

    private static void hold(String test) {
        Kit.due(test, holds(test), true);
    }

    private static void sumsGoRound() {
        hold("7/2=3 and 0-7/2=0-3");
        // 2 to the 63rd goes round to the least number there is.
        String least = "65536*65536*65536*32768";
        hold(least + "<0");
        hold(least + "-1>0");
        hold(least + "=0-" + least);
        hold(least + "+" + least + "=0");
        hold(least + "*2=0");
        // Towards 0, and its rest with the sign of what is parted.
        hold(least + "/5*5+" + least + "%5=" + least);
        hold(least + "%5=0-3");
        hold(least + "%5<0");
        hold("65536*65536*65536*32768/65536/65536/65536=0-32768");
        hold("7%3=1 and 6%3=0 and 2/3=0 and 2%3=2");
        hold("5/0=0 and 5%0=0 and 0/0=0 and 0%0=0");
        hold("5*0=0 and 0*5=0 and 0/5=0");
        hold(least + "/0=0 and " + least + "%0=0");
        hold("10-3-2=5 and 100/5/2=10 and 100%7%2=0 and 2*3%4=2 and 7/2*2=6");
        hold("1+2*3=7 and 2*3+1=7 and 10-2*3=4 and 10-4/2=8 and 1+5%3=3");
        hold("99999*99999=99998*99999+99999");
    }

    private static void testsBind() {
        hold("1=1 or 1=1 and 1=2");
        hold("1=2 and 1=1 or 1=1");
        hold("1=1 or 1=2 or 1=2");
        hold("1=2 or 1=1 or 1=2");
        hold("1=2 or 1=2 or 1=1");
        hold("1=2 or 1=1 and 1=1 or 1=2 and 1=1");
        hold("1=2 and 1=2 or 1=1 and 1=1");
        hold("not [1=1 and 1=2]");
        hold("not 1=2 and 1=1");
        hold("not not 1=1");
        hold("not [not [1=1]]");
        hold("not 1=1 or 1=1");
        hold("[1=2 or 1=1] and 1=1");
        hold("1<2 and 1<=1 and 1<=2 and 2=2 and 2>=2 and 3>=2 and 3>2");
        hold("not 2<2 and not 3<2 and not 3<=2 and not 2>2 and not 1>=2 and not 1>2 and not 1=2");
        due("not binds a fact alone", by("wake 1 if not 1=2 and 1=2"), 0);
        due("and ahead of or", by("wake 1 if [1=1 or 1=1] and 1=2"), 0);
        due("and of three", by("wake 1 if 1=1 and 1=2 and 1=1"), 0);
        due("or of three", by("wake 1 if 1=2 or 1=2 or 1=2"), 0);
    }
}
