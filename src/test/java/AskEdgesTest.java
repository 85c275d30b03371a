import java.util.Random;

/** Part III of the terms, promises 19 to 33: a test of its own for each sentence that names an edge. */
final class AskEdgesTest {
    /** Eight words, men and orders, one of each; NEEDS 1 to 8. */
    private static final String EIGHT = "ship 8;man 0 0;man 1 1;man 2 2;man 3 0;man 4 1;man 5 2;man 6 0;man 7 1"
        + ";order 1 0;order 2 1;order 3 2;order 4 3;order 5 4;order 6 5;order 7 6;order 8 7";
    /** A row of five 0s means 4, none of fewer does. */
    private static final String CHAIN = ";order 1 4;means 0 0 1;means 1 0 2;means 2 0 3;means 3 0 4";
    private static final int MOST = Integer.MAX_VALUE;
    private static final int LEAST = Integer.MIN_VALUE;

    public static void main(String[] args) {
        sayables();
        shortests();
        fewests();
        watches();
        boys();
        lacks();
        nearests();
        dones();
        awakes();
        asks();
        voyages();
        counts();
        images();
        nothingChangesByWhatIsAsked();
        Kit.finish("AskEdgesTest");
    }

    private static void sayables() {
        sayableIsNoneWithoutAShip();
        sayableIsABitForEach();
        rowsOfOneToFiveMen();
        allBagsOfWords();
        wordsNextToTheirOwn();
        fiveWordsNextToTheirOwn();
        anOrderThatIsNeverMeant();
        meaningsAtEachPlace();
        theFirstTwoGoAhead();
        theTenthMeaning();
        theBoyWithEachWord();
    }

    private static void shortests() {
        shortestIsNoneWithoutThese();
        shortestHasSoManyMen();
        shortestIsOfFewestMen();
        shortestIsTheFirstAsARow();
    }

    private static void fewests() {
        fewestIsNoneWithoutThese();
        fewestOfNoOrders();
        fewestOfThoseWhoCouldBeHeard();
        fewestIsFewestThenLeast();
        fewestWithTheBoyBesides();
    }

    private static void watches() {
        watchesIsNoneWithoutThese();
        watchesForANeedAtLeast();
        watchesOfAllNotDead();
        watchesWithTheLeastFirstSet();
        thereAreNoWatches();
    }

    private static void boys() {
        boyIsNoneWithoutThese();
        boyOfSeveralTheLeast();
        boyOfTheGreatestNeed();
    }

    private static void lacks() {
        lacksIsNoneWithoutThese();
        lacksNoneOneOrTwo();
        lacksMoreThanTwo();
        lacksTheLeastWords();
        lacksWithinARowOfFive();
    }

    private static void nearests() {
        nearestIsNoneWithoutThese();
        nearestOfNoOrders();
        nearestByChanges();
        nearestOfThoseHeard();
        nearestOfSeveralTheLeast();
    }

    private static void dones() {
        doneIsRefused();
        doneTenAtMost();
        doneNoneForgets();
    }

    private static void awakes() {
        awakeIsNoneWithoutThese();
        awakeOfAllSets();
        awakeOfNoSet();
        awakeOfThoseNotDead();
        awakeByTenDone();
    }

    private static void asks() {
        askIsNoneWithoutThese();
        askOfNoSetOrNoOrders();
        askPartsBest();
    }

    private static void voyages() {
        seedIsRefused();
        voyagesIsNoneWithoutThese();
        voyagesOfNothing();
        voyagesByDraws();
        voyagesByP();
        voyagesBeginFromNow();
    }

    private static void counts() {
        countIsNoneForOthers();
        countOfEach();
    }

    private static void images() {
        imageIsNoneWithoutIt();
        backIsRefused();
        imageHoldsAllButTapeAndRules();
        imageHoldsTenDone();
        nothingCanBeUndoneThen();
        fourImagesAreApart();
        anImageIsMadeAnew();
    }

    private static void due(String call, int got, int want) {
        Kit.due(call, got, want);
    }

    private static void sayableIsNoneWithoutAShip() {
        Kit.refused("no ship", new ChoirShip(), -1, y -> y.sayable());
        due("no orders", Kit.with("ship 1;man 0 0").sayable(), 0);
        due("no men", Kit.with("ship 1;order 1 0").sayable(), 0);
    }

    private static void sayableIsABitForEach() {
        ChoirShip x = Kit.with(EIGHT);
        due("all", x.sayable(), 255);
        x.turn(1);
        due("berths 0 and 2", x.sayable(), 0x6d);
        x.turn(2);
        due("berths 0 and 1", x.sayable(), 0xdb);
        x.turn(0);
        x.wake(7, false);
        due("the eighth asleep", x.sayable(), 127);
        x.sicken(6, 1);
        due("the seventh sick", x.sayable(), 63);
        x.die(0);
        due("the first dead", x.sayable(), 62);
        x.teach(7);
        due("the boy says the eighth", x.sayable(), 62 + 128);
    }

    private static void rowsOfOneToFiveMen() {
        for (int men = 1; men <= 8; men++) {
            ChoirShip x = Kit.with("ship 5" + ";man 0 0".repeat(men) + CHAIN);
            due("by five of " + men, x.sayable(), men >= 5 ? 1 : 0);
            x.teach(0);
            due("by five of " + men + " and the boy", x.sayable(), men >= 4 ? 1 : 0);
        }
        String six = ";order 1 5;means 0 0 1;means 1 0 2;means 2 0 3;means 3 0 4;means 4 0 5";
        ChoirShip x = Kit.with("ship 6" + ";man 0 0".repeat(8) + six);
        due("six are too many", x.sayable(), 0);
        x.teach(0);
        due("five and the boy are six", x.sayable(), 0);
        x.teach(1);
        due("four and the boy", x.sayable(), 1);
        due("a row of four by four", Kit.with("ship 1" + ";man 0 0".repeat(4) + ";order 1 0000").sayable(), 1);
        due("not by three", Kit.with("ship 1" + ";man 0 0".repeat(3) + ";order 1 0000").sayable(), 0);
    }

    /** Without meanings an order is sayable if the men have its words: for all rows of four, and many crews. */
    private static void allBagsOfWords() {
        Random random = new Random(4);
        int[] rows = new int[8];
        int n = 0;
        for (int row = 0; row < 10000; row++) {
            int a = row / 1000;
            int b = row / 100 % 10;
            int c = row / 10 % 10;
            if (a <= b && b <= c && c <= row % 10) {
                rows[n % 8] = row;
                n++;
                if (n % 8 == 0 || row == 9999) {
                    bags(random.ints(320, 0, 10).toArray(), rows);
                }
            }
        }
        due("rows of four", n, 715);
    }

    private static void bags(int[] words, int[] rows) {
        for (int from = 0; from < words.length; from += 8) {
            StringBuilder text = new StringBuilder("ship 10");
            int[] has = new int[10];
            for (int m = from; m < from + 8; m++) {
                text.append(";man ").append(words[m]).append(" 0");
                has[words[m]]++;
            }
            int can = 0;
            for (int o = 0; o < 8; o++) {
                String row = String.format("%04d", rows[o]);
                text.append(";order 0 ").append(row);
                can |= within(row, has) ? 1 << o : 0;
            }
            due("sayable of " + text, Kit.with(text.toString()).sayable(), can);
        }
    }

    private static boolean within(String row, int[] has) {
        for (int w = 0; w < 10; w++) {
            int word = '0' + w;
            if (row.chars().filter(c -> c == word).count() > has[w]) {
                return false;
            }
        }
        return true;
    }

    /** Any five men say the last of their words, and not these with the first of them one more. */
    private static void wordsNextToTheirOwn() {
        int crews = 0;
        for (int number = 0; number < 100000; number++) {
            String crew = String.format("%05d", number);
            if (isSorted(crew)) {
                crews++;
                int[] has = new int[10];
                StringBuilder text = new StringBuilder("ship 10");
                for (char word : crew.toCharArray()) {
                    text.append(";man ").append(word).append(" 0");
                    has[word - '0']++;
                }
                due("sayable of " + crew, Kit.with(text + lastWords(crew)).sayable(), bitsOf(crew, has));
            }
        }
        due("crews", crews, 2002);
    }

    private static boolean isSorted(String words) {
        return words.chars().sorted().collect(StringBuilder::new, StringBuilder::appendCodePoint, StringBuilder::append)
            .toString().equals(words);
    }

    private static String raised(String words) {
        return (char) (words.charAt(0) == '9' ? '9' : words.charAt(0) + 1) + words.substring(1);
    }

    private static String lastWords(String crew) {
        StringBuilder orders = new StringBuilder();
        for (int from = 1; from <= 4; from++) {
            orders.append(";order 0 ").append(crew.substring(from));
            orders.append(";order 0 ").append(raised(crew.substring(from)));
        }
        return orders.toString();
    }

    /** Of each length its own words; those raised if they have them, and they are no row told before. */
    private static int bitsOf(String crew, int[] has) {
        int bits = 0;
        for (int from = 1; from <= 4; from++) {
            String own = crew.substring(from);
            String more = raised(own);
            int bit = 1 << 2 * (from - 1);
            bits |= bit;
            bits |= !more.equals(own) && within(more, has) ? 2 * bit : 0;
        }
        return bits;
    }

    private static void fiveWordsNextToTheirOwn() {
        for (int w = 1; w <= 9; w++) {
            // A word that is neither w nor one less is meant by these two.
            int x = w == 1 ? 5 : w == 2 ? 6 : 0;
            String told = "ship 10;order 1 " + x + w + w + w + ";means " + (w - 1) + " " + w + " " + x;
            String four = (";man " + w + " 0").repeat(4);
            due("with one less", Kit.with(told + four + ";man " + (w - 1) + " 0").sayable(), 1);
            due("five alike", Kit.with(told + four + ";man " + w + " 0").sayable(), 0);
            // Two of five alike mean x, and again two of them.
            String alike = "ship 10;order 1 " + x + x + w + ";means " + w + " " + w + " " + x;
            due("by five", Kit.with(alike + four + ";man " + w + " 0").sayable(), 1);
            due("not by four", Kit.with(alike + four).sayable(), 0);
            due("not by none", Kit.with(alike).sayable(), 0);
        }
    }

    private static void anOrderThatIsNeverMeant() {
        due("its words mean another", Kit.with("ship 3;man 0 0;man 1 0;order 1 01;order 1 2;means 0 1 2").sayable(), 2);
        due("its last two do", Kit.with("ship 3;man 2 0;man 2 0;man 0 0;man 1 0;order 1 2201;means 0 1 2").sayable(), 0);
        due("a word twice means more, this is none",
            Kit.with("ship 3;man 0 0;man 1 0;order 1 01;means 0 0 2").sayable(), 1);
        due("of two with that row the least", Kit.with("ship 2;man 0 0;order 1 1;order 5 0;order 9 0").sayable(), 2);
        due("two by the same men", Kit.with("ship 2;man 0 0;man 1 0;order 1 01;order 1 10").sayable(), 3);
    }

    /** A row of five says 0123 with two words in the place of any one, whichever meaning was told first. */
    private static void meaningsAtEachPlace() {
        String[] means = {";means 4 5 0", ";means 6 7 1", ";means 8 9 2", ";means 4 9 3"};
        int[][] crews = {{4, 5, 1, 2, 3}, {0, 6, 7, 2, 3}, {0, 1, 8, 9, 3}, {0, 1, 2, 4, 9}};
        for (int first = 0; first < 4; first++) {
            StringBuilder text = new StringBuilder("ship 10;order 1 0123");
            for (int i = 0; i < 4; i++) {
                text.append(means[(first + i) % 4]);
            }
            for (int[] crew : crews) {
                StringBuilder men = new StringBuilder(text);
                for (int word : crew) {
                    men.append(";man ").append(word).append(" 0");
                }
                ChoirShip x = Kit.with(men.toString());
                due("sayable of " + men, x.sayable(), 1);
                row("shortest of " + men, x, 0, 5, 0, 1, 2, 3, 4);
                lack("lacks of " + men, x, 0, 0);
                x.wake(4, false);
                due("not by four of " + men, x.sayable(), 0);
            }
        }
        // One word can be made in two ways, of two words again.
        String two = "ship 8;order 1 0;means 1 2 0;means 3 4 0;means 5 6 1;means 7 7 4";
        for (String men : new String[] {"0", "12", "34", "562", "377"}) {
            StringBuilder text = new StringBuilder(two);
            men.chars().forEach(word -> text.append(";man ").append((char) word).append(" 0"));
            due("sayable of " + text, Kit.with(text.toString()).sayable(), 1);
        }
    }

    private static void theFirstTwoGoAhead() {
        // 1 3 4 would be 1 2, but 1 3 mean 0 ahead of that.
        due("two that stand ahead", Kit.with("ship 5;man 1 0;man 3 0;man 4 0;order 1 12;means 3 4 2;means 1 3 0").sayable(),
            0);
        due("without these two", Kit.with("ship 5;man 1 0;man 3 0;man 4 0;order 1 12;means 3 4 2;means 3 1 0").sayable(), 1);
    }

    private static void theTenthMeaning() {
        String nine = ";means 0 0 0;means 0 1 0;means 0 2 0;means 0 3 0;means 0 4 0;means 0 5 0;means 0 6 0;means 0 7 0"
            + ";means 0 8 0";
        ChoirShip x = Kit.with("ship 10;man 8 0;man 8 0;order 1 9" + nine + ";means 8 8 9");
        due("said", x.say(1, 2), 0);
        due("sayable", x.sayable(), 1);
        row("shortest", x, 0, 2, 0, 1);
        x.die(1);
        lack("lacks", x, 0, 1, 8);
    }

    private static void theBoyWithEachWord() {
        ChoirShip x = Kit.with("ship 10;man 5 0;order 1 0;order 1 1;order 1 59;order 1 8;order 1 55;order 1 9");
        int[] said = {1, 2, 0, 0, 0, 16, 0, 0, 8, 4 + 32};
        for (int w = 0; w <= 9; w++) {
            x.teach(w);
            due("with " + w, x.sayable(), said[w]);
            due("heard", x.count(8), 257);
        }
        x.wake(0, false);
        due("alone", x.sayable(), 32);
    }

    private static void row(String name, ChoirShip x, int order, int... want) {
        for (int what = 0; what <= 5; what++) {
            due(name + ", what " + what, x.shortest(order, what), what < want.length ? want[what] : -2);
        }
    }

    private static void shortestIsNoneWithoutThese() {
        Kit.refused("no ship", new ChoirShip(), -1, y -> y.shortest(0, 0), y -> y.shortest(-1, 0));
        Kit.refused("shortest", Kit.with(EIGHT), -1, y -> y.shortest(8, 0), y -> y.shortest(-1, 0),
            y -> y.shortest(0, -1), y -> y.shortest(0, 6), y -> y.shortest(MOST, 0), y -> y.shortest(0, LEAST));
        due("no orders", Kit.with("ship 1;man 0 0").shortest(0, 0), -1);
        row("the eighth", Kit.with(EIGHT), 7, 1, 7);
    }

    private static void shortestHasSoManyMen() {
        ChoirShip x = Kit.with("ship 1" + ";man 0 0".repeat(4) + ";order 1 0;order 1 00;order 1 000;order 1 0000");
        row("one", x, 0, 1, 0);
        row("two", x, 1, 2, 0, 1);
        row("three", x, 2, 3, 0, 1, 2);
        row("four", x, 3, 4, 0, 1, 2, 3);
        x.die(0);
        row("none says it", x, 3);
        row("three of others", x, 2, 3, 1, 2, 3);
        row("five", Kit.with("ship 5" + ";man 0 0".repeat(8) + CHAIN), 0, 5, 0, 1, 2, 3, 4);
    }

    private static void shortestIsOfFewestMen() {
        // By 3 4 (men 6, 7), by 0 1 4, or by 2 alone (man 5).
        ChoirShip x = Kit.with("ship 5;man 0 0;man 1 0;man 0 0;man 1 0;man 4 0;man 2 0;man 3 0;man 4 0"
            + ";order 1 2;means 0 1 3;means 3 4 2");
        row("one", x, 0, 1, 5);
        x.wake(5, false);
        row("two, though three begin with less", x, 0, 2, 6, 4);
        x.wake(6, false);
        row("three", x, 0, 3, 0, 1, 4);
        x.wake(0, false);
        row("three others", x, 0, 3, 2, 1, 4);
        x.teach(3);
        row("the boy with one", x, 0, 2, 8, 4);
        x.teach(2);
        row("the boy alone", x, 0, 1, 8);
        // 3 4 1 by the least men, but 5 6 are fewer.
        row("fewer ahead of less", Kit.with("ship 7;man 3 0;man 4 0;man 1 0;man 5 0;man 6 0;order 1 2"
            + ";means 0 1 2;means 3 4 0;means 5 6 2"), 0, 2, 3, 4);
    }

    private static void shortestIsTheFirstAsARow() {
        // 2 is meant by 0 1, by 1 0, and by 3 3.
        ChoirShip x = Kit.with("ship 4;man 3 0;man 1 0;man 0 0;man 3 0;man 0 0;order 1 2"
            + ";means 0 1 2;means 1 0 2;means 3 3 2");
        row("3 3", x, 0, 2, 0, 3);
        x.wake(3, false);
        row("1 0", x, 0, 2, 1, 2);
        x.wake(2, false);
        row("1 0", x, 0, 2, 1, 4);
        x.teach(3);
        row("3 and the boy", x, 0, 2, 0, 8);
        x.wake(0, false);
        x.teach(0);
        row("a man ahead of the boy", x, 0, 2, 1, 4);
        x.wake(4, false);
        row("the boy behind", x, 0, 2, 1, 8);
        x.wake(4, true);
        x.wake(1, false);
        x.teach(1);
        row("the boy behind", x, 0, 2, 4, 8);
        // The words of the whole row are looked at, not the first alone.
        ChoirShip z = Kit.with("ship 4;man 0 0;man 1 0;man 2 0;order 1 3;means 0 2 3;means 0 1 3");
        row("0 1 ahead of 0 2", z, 0, 2, 0, 1);
    }

    private static void fewestIsNoneWithoutThese() {
        Kit.refused("no ship", new ChoirShip(), -1, y -> y.fewest(0, 0), y -> y.fewest(0, 1), y -> y.fewest(1, 0));
        Kit.refused("fewest", Kit.with(EIGHT), -1, y -> y.fewest(256, 0), y -> y.fewest(-1, 0), y -> y.fewest(257, 1),
            y -> y.fewest(MOST, 0), y -> y.fewest(LEAST, 0), y -> y.fewest(0, 2), y -> y.fewest(0, -1),
            y -> y.fewest(255, 2), y -> y.fewest(1, MOST), y -> y.fewest(1, LEAST));
        ChoirShip three = Kit.with("ship 3;man 0 0;man 1 0;man 2 0;order 1 0;order 1 1;order 1 2");
        due("all three", three.fewest(7, 1), 7);
        due("a fourth", three.fewest(8, 1), -1);
        due("without orders", Kit.with("ship 1;man 0 0").fewest(1, 0), -1);
    }

    private static void fewestOfNoOrders() {
        ChoirShip x = Kit.with(EIGHT);
        due("none", x.fewest(0, 0), 0);
        due("none", x.fewest(0, 1), 0);
        due("without orders", Kit.with("ship 1;man 0 0").fewest(0, 0), 0);
        due("without men", Kit.with("ship 1;order 1 0").fewest(0, 1), 0);
        due("without men", Kit.with("ship 1;order 1 0").fewest(1, 0), -2);
        due("without men", Kit.with("ship 1;order 1 0").fewest(1, 1), -2);
    }

    private static void fewestOfThoseWhoCouldBeHeard() {
        ChoirShip x = Kit.with(EIGHT);
        due("all", x.fewest(255, 0), 8);
        due("all", x.fewest(255, 1), 255);
        due("the eighth", x.fewest(128, 1), 128);
        for (int m = 0; m < 8; m++) {
            x.wake(m, false);
        }
        due("asleep, too", x.fewest(255, 1), 255);
        x.sicken(3, 1);
        due("not the sick", x.fewest(8, 0), -2);
        due("the others", x.fewest(255 - 8, 1), 255 - 8);
        x.turn(1);
        due("not to lee", x.fewest(2, 0), -2);
        due("not to lee", x.fewest(128, 1), -2);
        x.die(0);
        due("not the dead", x.fewest(1, 0), -2);
        due("berths 0 and 2", x.fewest(4 + 32 + 64, 1), 4 + 32 + 64);
    }

    private static void fewestIsFewestThenLeast() {
        // 2 by men 0 and 1 together, or by man 3 or 4 alone.
        ChoirShip x = Kit.with("ship 4;man 0 0;man 1 0;man 3 0;man 2 0;man 2 0;order 1 2;order 1 0;order 1 3;means 0 1 2");
        due("one, not the two least", x.fewest(1, 1), 8);
        due("how many", x.fewest(1, 0), 1);
        due("with 0 it is two in both ways: the least", x.fewest(3, 1), 3);
        due("with 3 it is two", x.fewest(5, 1), 12);
        due("all: three in both ways", x.fewest(7, 1), 7);
        x.die(1);
        due("then", x.fewest(3, 1), 9);
        x.die(3);
        due("then", x.fewest(3, 1), 17);
        x.die(4);
        due("by none", x.fewest(3, 1), -2);
        due("by none", x.fewest(3, 0), -2);
    }

    private static void fewestWithTheBoyBesides() {
        ChoirShip x = Kit.with("ship 3;man 0 0;man 1 0;order 1 2;order 1 1;means 0 1 2");
        due("without a word", x.fewest(1, 1), 3);
        x.teach(0);
        due("he says 0", x.fewest(1, 1), 2);
        due("how many", x.fewest(1, 0), 1);
        x.teach(2);
        due("he alone", x.fewest(1, 0), 0);
        due("he alone, a man for the other", x.fewest(3, 1), 2);
        x.die(0);
        x.die(1);
        due("all are dead", x.fewest(1, 1), 0);
        due("by none", x.fewest(3, 1), -2);
    }

    private static void watchesIsNoneWithoutThese() {
        Kit.refused("no ship", new ChoirShip(), -1, y -> y.watches(0, 0), y -> y.watches(99, 1), y -> y.watches(100, 0));
        Kit.refused("watches", Kit.with(EIGHT), -1, y -> y.watches(-1, 0), y -> y.watches(100, 0), y -> y.watches(0, -1),
            y -> y.watches(0, 2), y -> y.watches(99, 2), y -> y.watches(MOST, 0), y -> y.watches(LEAST, 1),
            y -> y.watches(0, MOST), y -> y.watches(0, LEAST));
    }

    private static void watchesForANeedAtLeast() {
        ChoirShip x = Kit.with("ship 2;man 0 0;man 0 0;man 1 0;order 99 0;order 50 1;order 0 0");
        due("0: one man alone has word 1", x.watches(0, 0), -2);
        due("50", x.watches(50, 0), -2);
        due("51", x.watches(51, 0), 1);
        due("51", x.watches(51, 1), 6);
        due("99", x.watches(99, 0), 1);
        due("99", x.watches(99, 1), 6);
        ChoirShip z = Kit.with("ship 1;man 0 0;order 0 0");
        due("need 0", z.watches(0, 0), -2);
        due("no order with 1", z.watches(1, 0), 1);
        due("no order with 1", z.watches(1, 1), 0);
        ChoirShip last = Kit.with("ship 1;man 0 0" + ";order 0 00".repeat(7) + ";order 9 0");
        due("the eighth order", last.watches(9, 0), -2);
        due("the eighth order", last.watches(10, 0), 1);
    }

    private static void watchesOfAllNotDead() {
        ChoirShip x = Kit.with("ship 2;man 0 1;man 1 1;man 0 1;man 1 1;man 0 1;order 5 01");
        due("men 0 and 1", x.watches(5, 0), 3);
        due("the others", x.watches(5, 1), 28);
        x.turn(1);
        due("without wind", x.watches(5, 0), 3);
        x.sicken(1, 9);
        due("the sick, too", x.watches(5, 0), 3);
        x.wake(0, false);
        due("asleep, too", x.watches(5, 0), 3);
        x.die(0);
        due("without the dead", x.watches(5, 0), 6);
        due("without the dead", x.watches(5, 1), 24);
        x.die(3);
        due("there are none", x.watches(5, 0), -2);
        x.teach(1);
        due("without the boy", x.watches(5, 0), -2);
    }

    private static void watchesWithTheLeastFirstSet() {
        ChoirShip x = Kit.with("ship 2;man 1 0;man 0 0;man 0 0;man 0 0;order 5 0");
        // Man 0 must be in the first: he and man 1 are 3.
        due("he is in it", x.watches(5, 0), 3);
        due("the rest", x.watches(5, 1), 12);
        due("no order: he alone", x.watches(6, 0), 1);
        due("no order: the rest", x.watches(6, 1), 14);
        ChoirShip z = Kit.with("ship 1" + ";man 0 0".repeat(8) + ";order 5 0000");
        due("four and four", z.watches(0, 0), 15);
        due("four and four", z.watches(0, 1), 240);
        z.die(7);
        due("three are too few", z.watches(0, 0), -2);
    }

    private static void thereAreNoWatches() {
        ChoirShip none = Kit.with("ship 1");
        due("no men", none.watches(0, 0), -2);
        due("no men", none.watches(99, 1), -2);
        ChoirShip x = Kit.with("ship 1;man 0 0;man 0 0;order 5 0");
        due("one each", x.watches(5, 0), 1);
        due("one each", x.watches(5, 1), 2);
        x.die(1);
        due("one man", x.watches(5, 0), -2);
        due("one man", x.watches(5, 1), -2);
        due("one man, no order", x.watches(6, 1), 0);
        x.die(0);
        due("all dead", x.watches(5, 0), -2);
        due("all dead, no order", x.watches(6, 0), -2);
        due("all dead, no order", x.watches(6, 1), -2);
    }

    private static void boyIsNoneWithoutThese() {
        Kit.refused("no ship", new ChoirShip(), -1, y -> y.boy(0), y -> y.boy(1), y -> y.boy(2));
        Kit.refused("boy", Kit.with(EIGHT), -1, y -> y.boy(-1), y -> y.boy(2), y -> y.boy(MOST), y -> y.boy(LEAST));
    }

    private static void boyOfSeveralTheLeast() {
        due("no orders", Kit.with("ship 3").boy(0), 0);
        due("no orders", Kit.with("ship 3").boy(1), 0);
        due("needs of 0", Kit.with("ship 3;order 0 2").boy(0), 0);
        ChoirShip x = Kit.with("ship 10;order 7 9;order 7 4;order 6 1");
        due("the least of two", x.boy(0), 4);
        due("its need", x.boy(1), 7);
        x.teach(4);
        due("though he has it", x.boy(0), 4);
        ChoirShip all = Kit.with("ship 2;man 1 0;order 5 1");
        due("none is needed", all.boy(0), 0);
        due("what can be said anyway", all.boy(1), 5);
    }

    private static void boyOfTheGreatestNeed() {
        ChoirShip x = Kit.with("ship 10;man 0 1;man 1 2;order 99 9;order 50 08;order 50 18;order 1 0;order 2 1");
        due("8 for two orders", x.boy(0), 8);
        due("50 and 50 and what is sayable", x.boy(1), 103);
        x.turn(1);
        due("9", x.boy(0), 9);
        due("99 and 2", x.boy(1), 101);
        x.teach(8);
        due("as if he had not that", x.boy(0), 9);
        due("99 and 2", x.boy(1), 101);
        due("nothing is taught", x.count(10), 8);
        String most = "ship 9" + ";order 99 0;order 99 1;order 99 2;order 99 3;order 99 4;order 99 5;order 99 6;order 99 8"
            + ";man 0 0;man 1 0;man 2 0;man 3 0;man 4 0;man 5 0;man 6 0";
        due("eight times 99", Kit.with(most).boy(1), 792);
        due("by 8", Kit.with(most).boy(0), 8);
    }

    private static void lack(String name, ChoirShip x, int order, int... want) {
        for (int what = 0; what <= 2; what++) {
            due(name + ", what " + what, x.lacks(order, what), what < want.length ? want[what] : -2);
        }
    }

    private static void lacksIsNoneWithoutThese() {
        Kit.refused("no ship", new ChoirShip(), -1, y -> y.lacks(0, 0), y -> y.lacks(-1, 0));
        Kit.refused("lacks", Kit.with(EIGHT), -1, y -> y.lacks(8, 0), y -> y.lacks(-1, 0), y -> y.lacks(0, -1),
            y -> y.lacks(0, 3), y -> y.lacks(MOST, 0), y -> y.lacks(0, LEAST));
        due("no orders", Kit.with("ship 1").lacks(0, 0), -1);
        lack("the eighth", Kit.with(EIGHT), 7, 0);
    }

    private static void lacksNoneOneOrTwo() {
        ChoirShip x = Kit.with("ship 10;man 0 1;man 9 2;order 1 09");
        lack("none", x, 0, 0);
        x.turn(1);
        lack("the one to lee", x, 0, 1, 0);
        x.turn(2);
        lack("the other", x, 0, 1, 9);
        x.die(0);
        lack("both", x, 0, 2, 0, 9);
        x.teach(9);
        lack("the boy has one", x, 0, 1, 0);
        x.teach(0);
        lack("the boy has the other", x, 0, 1, 9);
    }

    private static void lacksMoreThanTwo() {
        ChoirShip x = Kit.with("ship 3;man 0 0;order 1 000;order 1 0000;order 1 12;order 1 112;order 1 0112");
        lack("two of his word", x, 0, 2, 0, 0);
        lack("three", x, 1);
        lack("two others", x, 2, 2, 1, 2);
        lack("three", x, 3);
        lack("three", x, 4);
        x.teach(1);
        lack("with the boy two", x, 4, 2, 1, 2);
        lack("with the boy one", x, 2, 1, 2);
    }

    private static void lacksTheLeastWords() {
        // 4 is meant by 2 3 and by 3 1.
        ChoirShip x = Kit.with("ship 6;order 1 4;order 1 45;means 2 3 4;means 3 1 4");
        lack("one: 4 itself", x, 0, 1, 4);
        lack("two: 4 and 5", x, 1, 2, 4, 5);
        ChoirShip three = Kit.with("ship 6;man 3 0;order 1 4;order 1 45;means 2 3 4;means 3 1 4");
        lack("1 ahead of 2 and 4", three, 0, 1, 1);
        lack("1 and 5 ahead of 2 and 5", three, 1, 2, 1, 5);
        ChoirShip two = Kit.with("ship 6;man 5 0;order 1 44;means 5 3 4;means 5 1 4");
        // 5 3 and 4, or 5 1 and 4: the lesser first.
        lack("1 4 ahead of 3 4", two, 0, 2, 1, 4);
    }

    private static void lacksWithinARowOfFive() {
        lack("one of five", Kit.with("ship 5" + ";man 0 0".repeat(4) + CHAIN), 0, 1, 0);
        lack("two of five, or 4 alone", Kit.with("ship 5" + ";man 0 0".repeat(3) + CHAIN), 0, 1, 1);
        // Of six 0s none is a row; a 1 and four 0s are, and 5 alone.
        String six = ";order 1 5;means 0 0 1;means 1 0 2;means 2 0 3;means 3 0 4;means 4 0 5";
        lack("not a row of six", Kit.with("ship 6" + ";man 0 0".repeat(5) + six), 0, 1, 1);
        lack("without men 5 alone", Kit.with("ship 6" + six), 0, 1, 5);
        lack("never", Kit.with("ship 1;man 0 0;man 0 0;order 1 00;means 0 0 0"), 0);
    }

    private static void near(String name, ChoirShip x, int men, int n, int order, int changes) {
        due(name + ", the order", x.nearest(men, n, 0), order);
        due(name + ", changes", x.nearest(men, n, 1), changes);
    }

    private static void nearestIsNoneWithoutThese() {
        Kit.refused("no ship", new ChoirShip(), -1, y -> y.nearest(0, 1, 0), y -> y.nearest(8, 1, 0));
        ChoirShip x = Kit.with("ship 2;man 0 0;man 1 1;man 1 2;order 1 01");
        Kit.refused("nearest", x, -1, y -> y.nearest(0, 0, 0), y -> y.nearest(0, 6, 0), y -> y.nearest(0, -1, 0),
            y -> y.nearest(3, 1, 0), y -> y.nearest(9, 1, 0), y -> y.nearest(8, 1, 0), y -> y.nearest(10, 1, 0),
            y -> y.nearest(-1, 1, 0), y -> y.nearest(0, 1, -1), y -> y.nearest(0, 1, 2), y -> y.nearest(0, 2, 0),
            y -> y.nearest(11, 2, 1), y -> y.nearest(18, 2, 0), y -> y.nearest(MOST, 5, 0), y -> y.nearest(LEAST, 1, 0),
            y -> y.nearest(0, MOST, 0), y -> y.nearest(0, 1, MOST), y -> y.nearest(121, 3, 0));
        x.teach(0);
        near("the boy with a word", x, 81, 2, 0, 0);
        Kit.refused("the boy twice", x, -1, y -> y.nearest(88, 2, 0));
    }

    private static void nearestOfNoOrders() {
        ChoirShip x = Kit.with("ship 2;man 0 0");
        near("there are none", x, 0, 1, -2, -2);
        ChoirShip z = Kit.with("ship 1;man 0 0;order 1 0000");
        near("there is one", z, 0, 1, 0, 3);
        due("another ship", Kit.ship(z, "ship 1;man 0 0"), 1);
        due("how many changes there is none", z.nearest(0, 1, 1), -2);
        Kit.refused("wrong rows still", x, -1, y -> y.nearest(1, 1, 0), y -> y.nearest(0, 1, 2));
    }

    private static void nearestByChanges() {
        String men = "ship 6;man 0 0;man 1 0;man 2 0;man 3 0;man 4 0;man 5 0";
        near("as it is", Kit.with(men + ";order 1 0123"), 123, 4, 0, 0);
        near("one left out ahead", Kit.with(men + ";order 1 123"), 123, 4, 0, 1);
        near("one left out behind", Kit.with(men + ";order 1 012"), 123, 4, 0, 1);
        near("one put in ahead", Kit.with(men + ";order 1 0123"), 123, 3, 0, 1);
        near("one put in between", Kit.with(men + ";order 1 0123"), 13, 3, 0, 1);
        near("one put for another", Kit.with(men + ";order 1 0523"), 123, 4, 0, 1);
        near("left out ahead and put in behind", Kit.with(men + ";order 1 1230"), 123, 4, 0, 2);
        near("turned", Kit.with(men + ";order 1 10"), 1, 2, 0, 2);
        near("all others", Kit.with(men + ";order 1 4444"), 123, 4, 0, 4);
        near("five others of one", Kit.with(men + ";order 1 5"), 1234, 5, 0, 5);
        near("four more", Kit.with(men + ";order 1 0123"), 1234, 5, 0, 1);
        near("its meaning, not its words", Kit.with(men + ";order 1 5;means 0 1 5"), 1, 2, 0, 0);
        near("five to one", Kit.with(men + ";order 1 0;means 0 1 0;means 0 2 0;means 0 3 0;means 0 4 0"), 1234, 5, 0, 0);
    }

    private static void nearestOfThoseHeard() {
        ChoirShip x = Kit.with("ship 3;man 0 1;man 1 2;man 2 0;order 1 012;order 1 2");
        near("all", x, 12, 3, 0, 0);
        x.turn(1);
        near("without man 0", x, 12, 3, 0, 1);
        x.sicken(1, 1);
        near("without man 1", x, 12, 3, 1, 0);
        x.wake(2, false);
        near("no one: the shortest row", x, 12, 3, 1, 1);
        x.die(0);
        near("the dead, too", x, 0, 1, 1, 1);
        x.teach(0);
        near("the boy is heard", x, 8012, 4, 1, 1);
        // 0 1 are apart but for him who is not heard between them.
        ChoirShip z = Kit.with("ship 4;man 0 0;man 2 0;man 1 0;order 1 3;order 1 021;means 0 1 3");
        near("all", z, 12, 3, 1, 0);
        z.wake(1, false);
        near("those heard stand one behind the other", z, 12, 3, 0, 0);
    }

    private static void nearestOfSeveralTheLeast() {
        ChoirShip x = Kit.with("ship 5;man 0 0;man 1 0;order 9 00;order 1 1;order 1 01;order 1 01");
        near("the third and the fourth", x, 1, 2, 2, 0);
        near("the first of one change", x, 0, 1, 0, 1);
        near("the second", x, 1, 1, 1, 0);
        near("two changes, one", x, 10, 2, 0, 1);
        near("the eighth", Kit.with(EIGHT), 7, 1, 7, 0);
        // An order that can't be said is near all the same.
        near("told before", Kit.with("ship 2;man 0 0;order 1 1;order 1 00;means 0 0 0"), 0, 1, 0, 1);
    }

    private static void doneIsRefused() {
        Kit.refused("no ship", new ChoirShip(), -2, y -> y.done(0, true), y -> y.done(-2, false));
        Kit.refused("done", Kit.with(EIGHT), -2, y -> y.done(8, true), y -> y.done(-2, true), y -> y.done(MOST, false),
            y -> y.done(LEAST, false));
        due("without orders", Kit.with("ship 1").done(0, true), -2);
        due("none without a ship", new ChoirShip().done(-1, true), 0);
        due("the eighth", Kit.with(EIGHT).done(7, true), 1);
    }

    private static void doneTenAtMost() {
        ChoirShip x = Kit.with(EIGHT);
        for (int i = 1; i <= 10; i++) {
            due("done", x.done(i % 8, i % 2 == 0), i);
        }
        Kit.refused("an 11th", x, -2, y -> y.done(0, true), y -> y.done(8, true), y -> y.done(-2, true));
        due("none", x.done(-1, true), 0);
        due("again", x.done(0, true), 1);
    }

    private static void doneNoneForgets() {
        ChoirShip x = Kit.with(EIGHT);
        due("nothing", x.done(-1, false), 0);
        x.done(3, true);
        due("sets", x.awake(0), 128);
        due("nothing", x.done(-1, true), 0);
        due("all sets", x.awake(0), 256);
        due("how many", x.count(11), 0);
        due("no act", x.count(12), 0);
        x.done(3, false);
        due("the other way", x.awake(1) * 1000 + x.awake(2), 8);
    }

    private static void awakeIsNoneWithoutThese() {
        Kit.refused("no ship", new ChoirShip(), -1, y -> y.awake(0), y -> y.awake(1), y -> y.awake(2), y -> y.awake(3));
        Kit.refused("awake", Kit.with(EIGHT), -1, y -> y.awake(-1), y -> y.awake(3), y -> y.awake(MOST),
            y -> y.awake(LEAST));
    }

    private static void sets(String name, ChoirShip x, int sets, int inAll, int inNone) {
        due(name + ", sets", x.awake(0), sets);
        due(name + ", in all", x.awake(1), inAll);
        due(name + ", in none", x.awake(2), inNone);
    }

    private static void awakeOfAllSets() {
        sets("nothing done", Kit.with(EIGHT), 256, 0, 0);
        sets("no men", Kit.with("ship 1"), 1, 0, 0);
        ChoirShip x = Kit.with(EIGHT);
        x.done(7, true);
        sets("the eighth", x, 128, 128, 0);
        x.done(0, false);
        sets("not the first", x, 64, 128, 1);
        ChoirShip two = Kit.with("ship 2;man 0 0;man 0 0;man 1 0;order 1 0;order 1 01");
        two.done(0, true);
        sets("one of two, with the third or without", two, 6, 0, 0);
        two.done(1, false);
        sets("without the third", two, 3, 0, 4);
        two.done(0, true);
        sets("the same again", two, 3, 0, 4);
        ChoirShip one = Kit.with("ship 1;man 0 0;man 0 0;order 1 0;order 1 00");
        one.done(0, true);
        one.done(1, false);
        sets("either, not both", one, 2, 0, 0);
    }

    private static void awakeOfNoSet() {
        ChoirShip x = Kit.with(EIGHT);
        x.done(2, true);
        x.done(2, false);
        sets("no set", x, 0, 0, 0);
        ChoirShip none = Kit.with("ship 1;order 1 0");
        none.done(0, true);
        sets("no men", none, 0, 0, 0);
        none.done(-1, true);
        none.done(0, false);
        sets("the set of none", none, 1, 0, 0);
    }

    private static void awakeOfThoseNotDead() {
        ChoirShip x = Kit.with(EIGHT);
        x.turn(1);
        x.sicken(2, 9);
        x.wake(3, false);
        x.teach(4);
        sets("wind, sick, asleep, the boy: all the same", x, 256, 0, 0);
        x.done(4, false);
        sets("not by the boy", x, 128, 0, 16);
        x.done(2, true);
        sets("the sick one", x, 64, 4, 16);
        x.die(4);
        sets("he is in none as he is dead", x, 64, 4, 0);
        x.die(2);
        sets("no set without him", x, 0, 0, 0);
        x.undo();
        sets("undone", x, 64, 4, 0);
    }

    private static void awakeByTenDone() {
        ChoirShip x = Kit.with(EIGHT);
        for (int o = 0; o < 8; o++) {
            x.done(o, o % 2 == 0);
        }
        sets("one set", x, 1, 0x55, 0xaa);
        x.done(0, true);
        x.done(1, true);
        sets("the tenth is against it", x, 0, 0, 0);
    }

    private static void askIsNoneWithoutThese() {
        Kit.refused("no ship", new ChoirShip(), -1, y -> y.ask(0), y -> y.ask(1), y -> y.ask(2));
        Kit.refused("ask", Kit.with(EIGHT), -1, y -> y.ask(-1), y -> y.ask(2), y -> y.ask(MOST), y -> y.ask(LEAST));
    }

    private static void best(String name, ChoirShip x, int order, int part) {
        due(name + ", the order", x.ask(0), order);
        due(name + ", the greater part", x.ask(1), part);
    }

    private static void askOfNoSetOrNoOrders() {
        best("no orders", Kit.with("ship 1;man 0 0"), -2, -2);
        ChoirShip x = Kit.with(EIGHT);
        x.done(2, true);
        x.done(2, false);
        best("no set", x, -2, -2);
        Kit.refused("others still", x, -1, y -> y.ask(2), y -> y.ask(-1));
        best("no men: one set", Kit.with("ship 1;order 1 0"), 0, 1);
    }

    private static void askPartsBest() {
        ChoirShip x = Kit.with(EIGHT);
        best("halves: the least", x, 0, 128);
        x.done(0, true);
        best("the next", x, 1, 64);
        for (int o = 1; o < 7; o++) {
            x.done(o, o % 2 == 0);
        }
        best("the eighth", x, 7, 1);
        x.done(7, true);
        best("one set: the least", x, 0, 1);
        // Order 0 by three quarters, order 1 by one: both 3 of 4; order 2 by none.
        ChoirShip z = Kit.with("ship 3;man 0 0;man 0 0;order 1 2;order 1 0;order 1 00");
        best("three of four, said or not", z, 1, 3);
        z.done(2, false);
        best("of three: two", z, 1, 2);
        z.done(1, true);
        best("two sets alike", z, 0, 2);
    }

    private static void seedIsRefused() {
        Kit.refused("below 0", Kit.with(EIGHT), -1, y -> y.seed(-1), y -> y.seed(LEAST));
        ChoirShip x = new ChoirShip();
        due("0 at first", x.seed(MOST), 0);
        due("the greatest", x.seed(0), MOST);
        due("0", x.seed(1), 0);
        due("it is", x.count(13), 1);
    }

    private static void voyagesIsNoneWithoutThese() {
        Kit.refused("no ship", new ChoirShip(), -1, y -> y.voyages(1, 1, 0, 0), y -> y.voyages(1, 1, 0, 1));
        ChoirShip x = Kit.with(EIGHT);
        Kit.refused("m", x, -1, y -> y.voyages(0, 1, 0, 0), y -> y.voyages(11, 1, 0, 0), y -> y.voyages(-1, 1, 0, 0),
            y -> y.voyages(MOST, 1, 0, 0), y -> y.voyages(LEAST, 1, 0, 0));
        Kit.refused("n", x, -1, y -> y.voyages(1, 0, 0, 0), y -> y.voyages(1, 21, 0, 0), y -> y.voyages(1, -1, 0, 0),
            y -> y.voyages(1, MOST, 0, 0), y -> y.voyages(1, LEAST, 0, 0));
        Kit.refused("p", x, -1, y -> y.voyages(1, 1, -1, 0), y -> y.voyages(1, 1, 101, 0), y -> y.voyages(1, 1, MOST, 0),
            y -> y.voyages(1, 1, LEAST, 0));
        Kit.refused("what", x, -1, y -> y.voyages(1, 1, 0, -1), y -> y.voyages(1, 1, 0, 2), y -> y.voyages(1, 1, 0, MOST),
            y -> y.voyages(1, 1, 0, LEAST));
    }

    private static void voyagesOfNothing() {
        due("no orders", Kit.with("ship 1;man 0 0").voyages(10, 20, 50, 0), 0);
        due("no orders", Kit.with("ship 1;man 0 0").voyages(10, 20, 50, 1), 0);
        due("no men", Kit.with("ship 1;order 3 0;order 4 0").voyages(10, 20, 50, 0), 400);
        due("no men", Kit.with("ship 1;order 3 0;order 4 0").voyages(10, 20, 50, 1), 1400);
        String most = "ship 1" + ";order 99 0".repeat(8);
        due("the most", Kit.with(most).voyages(10, 20, 0, 0), 1600);
        due("their need", Kit.with(most).voyages(10, 20, 0, 1), 158400);
    }

    private static void voyagesByDraws() {
        // From 2147483647: 1043980748, 288979989: draws 15929 (mod 3: 2), 4409 (mod 100: 9).
        ChoirShip x = Kit.with("ship 1;man 0 2;order 7 0");
        x.seed(MOST);
        due("wind 2", x.voyages(1, 1, 0, 0), 1);
        ChoirShip y = Kit.with("ship 1;man 0 1;order 7 0");
        y.seed(MOST);
        due("not to lee", y.voyages(1, 1, 0, 0), 0);
        due("9 is not below 9", y.voyages(1, 1, 9, 0), 0);
        due("9 is below 10", y.voyages(1, 1, 10, 0), 1);
        // From 0: draws 0, 21468, 9988, 22117, 3498; mod 3 and 100: wind 0, 68; wind 1, 17.
        y.seed(0);
        due("the first hour", y.voyages(1, 1, 68, 1), 0);
        due("the first hour", y.voyages(1, 1, 69, 1), 7);
        due("to lee at the second", y.voyages(1, 2, 0, 1), 7);
        due("likewise by two voyages", y.voyages(2, 1, 0, 1), 7);
        // Of two men one is dead: no draw for him.
        ChoirShip z = Kit.with("ship 2;man 0 0;man 1 0;order 1 0;order 8 1");
        due("two draws: 68 and 88", z.voyages(1, 1, 88, 1), 1);
        due("two draws: 68 and 88", z.voyages(1, 1, 89, 1), 9);
        z.die(0);
        due("one draw: 68", z.voyages(1, 1, 68, 1), 1);
        due("one draw: 68", z.voyages(1, 1, 69, 1), 9);
    }

    private static void voyagesByP() {
        ChoirShip x = Kit.with("ship 1;man 0 0;order 2 0");
        due("0: none sleeps", x.voyages(10, 20, 0, 0), 0);
        due("100: all sleep", x.voyages(10, 20, 100, 0), 200);
        due("100: all sleep", x.voyages(10, 20, 100, 1), 400);
        x.wake(0, false);
        due("he wakes by the draw", x.voyages(10, 20, 0, 0), 0);
        x.teach(0);
        due("the boy never sleeps", x.voyages(10, 20, 100, 0), 0);
    }

    private static void voyagesBeginFromNow() {
        ChoirShip x = Kit.with("ship 1;man 0 0;order 1 0");
        x.sicken(0, 3);
        due("sick for three of five", x.voyages(1, 5, 0, 0), 3);
        due("in each voyage anew", x.voyages(10, 5, 0, 0), 30);
        due("the last hour of them", x.voyages(1, 3, 0, 0), 3);
        x.hour();
        due("one less", x.voyages(10, 5, 0, 0), 20);
        x.turn(1);
        due("the wind is drawn", x.voyages(10, 5, 0, 0), 20);
        Kit.rule(x, "wake 1");
        for (int i = 0; i < 16; i++) {
            x.run(0, 60);
        }
        x.run(0, 38);
        due("at 999", x.count(5), 999);
        due("hours go by all the same", x.voyages(10, 20, 0, 0), 0);
        x.sicken(0, 9);
        due("hours go by all the same", x.voyages(1, 20, 0, 0), 9);
    }

    private static void countIsNoneForOthers() {
        Kit.refused("no ship", new ChoirShip(), -1, y -> y.count(15), y -> y.count(-1), y -> y.count(MOST),
            y -> y.count(LEAST));
        Kit.refused("count", Kit.with(EIGHT), -1, y -> y.count(15), y -> y.count(-1), y -> y.count(MOST),
            y -> y.count(LEAST));
    }

    private static void counts(String name, ChoirShip x, int... want) {
        for (int what = 0; what <= 14; what++) {
            due(name + ", count(" + what + ")", x.count(what), want[what]);
        }
    }

    private static void countOfEach() {
        counts("new", new ChoirShip(), 0, 0, 0, 0, 0, 0, 0, 0, 0, 0, -1, 0, 0, 0, 0);
        ChoirShip x = Kit.with(EIGHT);
        counts("a ship", x, 8, 8, 8, 0, 0, 0, 0, 255, 255, 0, -1, 0, 0, 0, 0);
        x.hour();
        x.turn(2);
        x.die(7);
        x.sicken(6, 2);
        x.wake(0, false);
        x.teach(0);
        x.done(0, true);
        x.seed(MOST);
        x.feed(0, 0, 0, 0, 0);
        x.end(19);
        counts("all of it", x, 8, 8, 8, 0, 0, 1, 2, 126, 256 + 26, 128, 0, 1, 6, MOST, 19);
        ChoirShip ten = Kit.with("ship 10;means 0 0 9;means 9 9 9");
        ten.teach(9);
        counts("words and meanings", ten, 10, 0, 0, 2, 0, 0, 0, 0, 256, 0, 9, 0, 1, 0, 0);
    }

    private static void imageIsNoneWithoutIt() {
        Kit.refused("image", Kit.with(EIGHT), -1, y -> y.image(4), y -> y.image(-1), y -> y.image(MOST),
            y -> y.image(LEAST));
        ChoirShip x = Kit.with(EIGHT);
        x.hour();
        for (int k = 0; k <= 3; k++) {
            due("the hour", x.image(k), 1);
        }
        due("no act, none lost", x.count(12), 1);
        due("without a ship", new ChoirShip().image(0), 0);
    }

    private static void backIsRefused() {
        ChoirShip x = Kit.with(EIGHT);
        x.hour();
        x.image(1);
        x.hour();
        Kit.refused("never made", x, -1, y -> y.back(0), y -> y.back(2), y -> y.back(3));
        Kit.refused("no image", x, -1, y -> y.back(4), y -> y.back(-1), y -> y.back(MOST), y -> y.back(LEAST));
        due("undone still", x.undo(), 1);
        due("made", x.back(1), 1);
        Kit.refused("a new object", new ChoirShip(), -1, y -> y.back(0), y -> y.back(1), y -> y.back(2), y -> y.back(3));
    }

    private static void imageHoldsAllButTapeAndRules() {
        ChoirShip x = Kit.with(EIGHT);
        x.hour();
        x.sicken(7, 9);
        x.die(6);
        x.wake(5, false);
        x.teach(3);
        x.turn(1);
        for (int o = 0; o < 5; o++) {
            x.done(o, o % 2 == 1);
        }
        x.seed(77);
        String sets = x.awake(0) + " " + x.awake(1) + " " + x.awake(2);
        x.image(2);
        due("another ship", Kit.ship(x, "ship 3;man 2 0;order 4 2;means 0 0 1"), 1);
        x.seed(5);
        x.done(0, true);
        Kit.rule(x, "wake 1");
        Kit.feed(x, "wake");
        due("back", x.back(2), 1);
        counts("as it was", x, 8, 8, 8, 0, 1, 1, 1, 63 - 32 + 128, 256 + 13, 64, 3, 5, 0, 77, 4);
        due("sick", x.man(7, 3), 9);
        due("tired", x.man(7, 5), 1);
        due("no meaning of the other ship", x.means(0, 0), -2);
        due("its orders", x.order(7, 0), 8);
        due("sayable", x.sayable(), 13);
        Kit.due("what was done", sets.equals(x.awake(0) + " " + x.awake(1) + " " + x.awake(2)), true);
        due("the rule stays", x.run(0, 1), 2);
    }

    private static void imageHoldsTenDone() {
        ChoirShip x = Kit.with(EIGHT);
        for (int i = 0; i < 10; i++) {
            x.done(i % 8, i % 2 == 0);
        }
        sets("ten", x, 1, 0x55, 0xaa);
        x.image(0);
        x.done(-1, true);
        for (int i = 0; i < 10; i++) {
            x.done(0, true);
        }
        sets("ten others", x, 128, 1, 0);
        x.image(1);
        x.back(0);
        sets("the first ten", x, 1, 0x55, 0xaa);
        due("an 11th", x.done(0, true), -2);
        x.back(1);
        sets("the others", x, 128, 1, 0);
    }

    private static void nothingCanBeUndoneThen() {
        ChoirShip x = Kit.with(EIGHT);
        x.hour();
        x.image(0);
        x.hour();
        due("back", x.back(0), 1);
        Kit.refused("none", x, -1, y -> y.undo());
        x.turn(2);
        due("what is done then", x.undo(), 0);
        Kit.refused("no more", x, -1, y -> y.undo());
    }

    private static void fourImagesAreApart() {
        ChoirShip x = new ChoirShip();
        x.image(0);
        for (int k = 1; k <= 3; k++) {
            Kit.ship(x, "ship " + k + ";man " + (k - 1) + " 0;order " + k + " " + (k - 1));
            x.sicken(0, k);
            x.done(0, k == 2);
            x.seed(k);
            due("made", x.image(k), 0);
        }
        Kit.ship(x, "ship 9;order 9 8");
        for (int round = 0; round < 2; round++) {
            for (int k = 3; k >= 1; k--) {
                due("back", x.back(k), 0);
                due("words", x.count(0), k);
                due("word", x.man(0, 0), k - 1);
                due("sick", x.man(0, 3), k);
                due("need", x.boy(1), k);
                due("x", x.count(13), k);
                due("in none, or in all", x.awake(k == 2 ? 1 : 2), 1);
                x.sicken(0, 9);
                x.done(-1, true);
            }
        }
        due("no ship", x.back(0), 0);
        due("no ship", x.sayable(), -1);
        due("no ship", x.hour(), -1);
        due("the last again", x.back(3), 0);
        due("words", x.count(0), 3);
    }

    private static void anImageIsMadeAnew() {
        ChoirShip x = Kit.with(EIGHT);
        x.image(3);
        x.hour();
        due("over it", x.image(3), 1);
        x.hour();
        due("the later one", x.back(3), 1);
        due("as often as one likes", x.back(3), 1);
        for (int i = 0; i < 12; i++) {
            Kit.ship(x, "ship " + (1 + i % 10) + ";man 0 0");
            x.image(i % 3);
        }
        due("the one that stayed", x.back(3), 1);
        due("its words", x.count(0), 8);
        due("all its orders", x.sayable(), 255);
    }

    private static void nothingChangesByWhatIsAsked() {
        ChoirShip x = Kit.with(EIGHT);
        x.hour();
        x.turn(1);
        x.wake(0, false);
        x.teach(2);
        x.done(3, true);
        x.seed(99);
        x.feed(1, 2, 3, 4, 5);
        String before = Kit.state(x);
        for (int what = 0; what <= 2; what++) {
            x.shortest(0, what);
            x.fewest(255, what);
            x.watches(5, what);
            x.boy(what);
            x.lacks(0, what);
            x.nearest(210, 3, what);
            x.awake(what);
            x.ask(what);
            x.voyages(3, 20, 50, what);
            x.meaning(1234, 5);
            x.means(0, what);
            x.order(0, what);
        }
        String after = Kit.state(x);
        Kit.due("it was " + before + " and is " + after, after.equals(before), true);
        due("undone", x.undo(), 3);
    }
}
