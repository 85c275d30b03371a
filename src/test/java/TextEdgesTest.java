/** Texts (part I of the terms, promises 1 to 5): a test of its own for each sentence that names an edge. */
final class TextEdgesTest {
    private static final int BLANKS = 0x20202020;

    public static void main(String[] args) {
        ships();
        rules();
        signs();
        faults();
        tape();
        Kit.finish("TextEdgesTest");
    }

    private static void ships() {
        aShipHas400BytesAtMost();
        aShipHas27ClausesAtMostBefore40();
        aShipHasOneToTenWords();
        shipStandsOnceAndFirst();
        aManHasAWordAndABerth();
        aNeedIs0To99();
        aRowHasOneToFourDigits();
        aRowIsOfWords();
        meansIsOfThreeWords();
        twoWordsHaveOneMeaning();
        eightMen();
        eightOrders();
        tenMeans();
        allStandInTheOrderTold();
        allBeginsAnew();
    }

    private static void rules() {
        aRuleHas400BytesAtMost();
        thereAreSixRules();
        aRuleHasTwelveClausesAtMost();
        tenDeepAtMost();
        sixtyPartsAtMost();
    }

    private static void signs() {
        aNumberHasOneToFiveDigits();
        aNumberGoesOnAsFarAsDigits();
        lettersAreSmallOnes();
        lettersGoOnAsFarAsTheyDo();
        wordsWithAnotherLetter();
        blanksStandAsOneLikes();
        noOtherByteIsABlank();
        signsOfTwoBytes();
    }

    private static void faults() {
        theEndIsBehindTheLastByte();
        aRowWithoutADigit();
        aNumberNotAsTold();
        theFirstAlongTheText();
        ofOnePlaceTheLeast();
        aRowTooLongGoesAhead();
        eachPlaceOfAClauseCanEnd();
    }

    private static void tape() {
        aNewObjectHasNothing();
        feedTakesTheHighestByteFirst();
        feedRefusesMoreThan400();
        endKeepsTheFirstBytes();
        endRefuses();
        shipEmptiesTheTape();
        shipsOneAfterTheOther();
        aBadShipChangesNothing();
        ruleEmptiesTheTape();
        aRuleBehindABadOne();
        aSeventhRuleIsRefused();
    }

    private static void due(String call, int got, int want) {
        Kit.due(call, got, want);
    }

    private static void good(String text) {
        ChoirShip x = new ChoirShip();
        Kit.due("ship \"" + text + "\" is good", Kit.ship(x, text) >= 0, true);
    }

    private static void bad(String text, int place, int code) {
        ChoirShip x = new ChoirShip();
        Kit.due("ship \"" + text + "\"", Kit.ship(x, text), Kit.fault(place, code));
        Kit.due("words after ship \"" + text + "\"", x.count(0), 0);
    }

    private static void goodRule(String text) {
        Kit.due("rule \"" + text + "\"", Kit.rule(new ChoirShip(), text), 0);
    }

    private static void badRule(String text, int place, int code) {
        ChoirShip x = new ChoirShip();
        Kit.due("rule \"" + text + "\"", Kit.rule(x, text), Kit.fault(place, code));
        Kit.due("rules after \"" + text + "\"", x.count(4), 0);
    }

    private static String wide(String head, int size, String tail) {
        return head + " ".repeat(size - head.length() - tail.length()) + tail;
    }

    private static void aShipHas400BytesAtMost() {
        good(wide("ship 1", 400, ";man 0 0"));
        good(wide("ship 1;man 0 0", 400, ""));
        bad(wide("ship 1", 400, ";man 0 3"), 399, 1);
        bad(wide("ship 1", 400, "x"), 399, 0);
        bad(wide("ship 1", 400, ";"), 400, 0);
        bad(wide("ship", 400, ""), 400, 0);
        bad(wide("ship 1", 399, ";"), 399, 0);
    }

    private static String tenMeansOf(int words) {
        StringBuilder all = new StringBuilder();
        for (int i = 0; i < 10; i++) {
            all.append(";means ").append(i / words).append(' ').append(i % words).append(" 0");
        }
        return all.toString();
    }

    /** One ship, eight men, eight orders, ten meanings: a 28th clause is one too many of its kind. */
    private static void aShipHas27ClausesAtMostBefore40() {
        String most = "ship 4" + ";man 0 0".repeat(8) + ";order 0 0".repeat(8) + tenMeansOf(4);
        Kit.due("27 clauses", Kit.ship(new ChoirShip(), most), 8);
        for (String more : new String[] {"ship 4", "man 0 0", "order 0 0", "means 3 3 0"}) {
            bad(most + ";" + more, most.length() + 1, 4);
        }
    }

    private static void aShipHasOneToTenWords() {
        bad("ship 0", 5, 1);
        for (int words = 1; words <= 10; words++) {
            ChoirShip x = Kit.with("ship " + words);
            Kit.due("words", x.count(0), words);
            Kit.due("the last word", x.means(words - 1, 0), -2);
            Kit.due("behind the last word", x.means(words, 0), -1);
        }
        bad("ship 11", 5, 1);
        bad("ship 99999", 5, 1);
    }

    private static void shipStandsOnceAndFirst() {
        bad("ship 1;ship 1", 7, 4);
        bad("ship 1;man 0 0; ship 2", 16, 4);
        bad("man 0 0;ship 1", 0, 4);
        bad(" order 0 0;ship 1", 1, 4);
        bad("means 0 0 0", 0, 4);
    }

    private static void aManHasAWordAndABerth() {
        for (int words = 1; words <= 10; words++) {
            good("ship " + words + ";man " + (words - 1) + " 0");
            String ship = "ship " + words + ";man ";
            bad(ship + words + " 0", ship.length(), 1);
        }
        for (int berth = 0; berth <= 2; berth++) {
            Kit.due("berth", Kit.with("ship 1;man 0 " + berth).man(0, 1), berth);
        }
        bad("ship 1;man 0 3", 13, 1);
    }

    private static void aNeedIs0To99() {
        Kit.due("need 0", Kit.with("ship 1;order 0 0").order(0, 0), 0);
        Kit.due("need 99", Kit.with("ship 1;order 99 0").order(0, 0), 99);
        Kit.due("need 00099", Kit.with("ship 1;order 00099 0").order(0, 0), 99);
        bad("ship 1;order 100 0", 13, 1);
        bad("ship 10;order 100 0", 14, 1);
    }

    private static void aRowHasOneToFourDigits() {
        for (int n = 1; n <= 4; n++) {
            Kit.due("a row of " + n, Kit.with("ship 1;order 1 " + "0".repeat(n)).order(0, 1), n);
        }
        bad("ship 1;order 1 00000", 15, 1);
        bad("ship 1;order 1 000000", 15, 1);
        bad("ship 1;order 1 0 0", 17, 0);
        bad("ship 1;order 1 00 00", 18, 0);
    }

    private static void aRowIsOfWords() {
        good("ship 3;order 1 2222");
        for (int i = 0; i < 4; i++) {
            StringBuilder row = new StringBuilder("2222");
            row.setCharAt(i, '3');
            bad("ship 3;order 1 " + row, 15 + i, 1);
        }
        bad("ship 3;order 1 2399", 16, 1);
        good("ship 10;order 1 9990");
    }

    private static void meansIsOfThreeWords() {
        Kit.due("means", Kit.with("ship 3;means 2 2 2").means(2, 2), 2);
        bad("ship 3;means 3 2 2", 13, 1);
        bad("ship 3;means 2 3 2", 15, 1);
        bad("ship 3;means 2 2 3", 17, 1);
    }

    private static void twoWordsHaveOneMeaning() {
        good("ship 2;means 0 1 0;means 1 0 0");
        bad("ship 2;means 0 1 0;means 0 1 0", 27, 1);
        bad("ship 2;means 0 1 0;means 0 1 1", 27, 1);
        bad("ship 2;means 0 1 0;means 0 1", 27, 1);
        bad("ship 2;means 0 1 0;means 0  1 x", 28, 1);
    }

    private static void eightMen() {
        for (int n = 0; n <= 8; n++) {
            Kit.due("men", Kit.ship(new ChoirShip(), "ship 1" + ";man 0 0".repeat(n)), n);
        }
        bad("ship 1" + ";man 0 0".repeat(9), 71, 4);
    }

    private static void eightOrders() {
        for (int n = 0; n <= 8; n++) {
            Kit.due("orders", Kit.with("ship 1" + ";order 0 0".repeat(n)).count(2), n);
        }
        bad("ship 1" + ";order 0 0".repeat(9), 87, 4);
    }

    private static void tenMeans() {
        Kit.due("ten", Kit.with("ship 4" + tenMeansOf(4)).count(3), 10);
        bad("ship 4" + tenMeansOf(4) + ";means 3 3 0", 127, 4);
        bad("ship 4" + tenMeansOf(4) + ";means 0 0 0", 127, 4);
    }

    private static void allStandInTheOrderTold() {
        ChoirShip x = Kit.with("ship 9;order 7 8;man 3 1;order 6 54;means 1 2 3;man 5 2;order 7 8;man 0 0");
        Kit.due("man 0", x.man(0, 0) * 10 + x.man(0, 1), 31);
        Kit.due("man 1", x.man(1, 0) * 10 + x.man(1, 1), 52);
        Kit.due("man 2", x.man(2, 0) * 10 + x.man(2, 1), 0);
        Kit.due("order 0", x.order(0, 0) * 10 + x.order(0, 2), 78);
        Kit.due("order 1", x.order(1, 0) * 100 + x.order(1, 2) * 10 + x.order(1, 3), 654);
        Kit.due("order 2", x.order(2, 0) * 10 + x.order(2, 2), 78);
    }

    private static void allBeginsAnew() {
        ChoirShip x = Kit.with("ship 2;man 0 1;man 1 2;order 1 0");
        Kit.due("the boy has no word", x.count(10), -1);
        Kit.due("hour", x.count(5), 0);
        Kit.due("wind", x.count(6), 0);
        Kit.due("awake", x.count(7), 3);
        Kit.due("heard", x.count(8), 3);
        Kit.due("dead", x.count(9), 0);
        Kit.due("sick and tired", x.man(0, 3) + x.man(1, 3) + x.man(0, 5) + x.man(1, 5), 0);
    }

    private static void aRuleHas400BytesAtMost() {
        goodRule(wide("wake 1", 400, "+1"));
        badRule(wide("wake 1", 400, "+"), 400, 0);
        badRule(wide("wake 1", 400, "!"), 399, 0);
        badRule(wide("wake", 400, ""), 400, 0);
    }

    private static void thereAreSixRules() {
        ChoirShip x = new ChoirShip();
        for (int r = 0; r <= 5; r++) {
            Kit.due("rule", Kit.rule(x, "wake 1"), r);
            Kit.due("rules", x.count(4), r + 1);
        }
        Kit.due("a seventh", Kit.rule(x, "wake 1"), -1);
        Kit.due("rules", x.count(4), 6);
    }

    private static void aRuleHasTwelveClausesAtMost() {
        for (int n = 1; n <= 12; n++) {
            goodRule("wake 1" + ";wake 1".repeat(n - 1));
        }
        badRule("wake 1" + ";wake 1".repeat(12), 84, 4);
        badRule("wake 1" + ";wake 1".repeat(11) + ";  wake", 86, 4);
        badRule("wake 1" + ";wake 1".repeat(11) + ";wak", 84, 0);
        badRule("wake 1" + ";wake 1".repeat(11) + ";", 84, 0);
    }

    private static void tenDeepAtMost() {
        String[] opens = {"[", "not ", "[not ", "not["};
        for (String open : opens) {
            int deep = open.startsWith("[not") || open.equals("not[") ? 2 : 1;
            String ten = "wake 1 if " + open.repeat(10 / deep);
            String close = open.contains("[") ? "]".repeat(10 / deep) : "";
            goodRule(ten + "1=1" + close);
            badRule(ten + "[1=1]" + close, ten.length(), 2);
            badRule(ten + "not 1=1" + close, ten.length(), 2);
            badRule(ten + "[", ten.length(), 2);
        }
        // What is closed is no deeper, nor is a fact behind a not.
        goodRule("wake 1 if " + "[1=1] and ".repeat(15) + "1=1");
        goodRule("wake 1 if " + "not 1=1 or ".repeat(15) + "1=1");
        goodRule("wake 1 if " + "[".repeat(9) + "[1=1] and [1=1] or not 1=1" + "]".repeat(9));
        // A second clause begins anew.
        goodRule("wake 1 if " + "[".repeat(10) + "1=1" + "]".repeat(10) + ";wake 1 if " + "[".repeat(10) + "1=1"
            + "]".repeat(10));
    }

    private static void sixtyPartsAtMost() {
        goodRule("wake 1" + "*1".repeat(59));
        badRule("wake 1" + "*1".repeat(60), 125, 3);
        badRule("wake 1" + "*1".repeat(59) + "*  crew", 127, 3);
        // 57 values, and 3 more for a fact: its second sum has the 60th.
        String most = "wake 1" + "-1".repeat(56);
        goodRule(most + " if 1=1");
        badRule(most + "-1 if 1=1", most.length() + 8, 3);
        badRule(most + "-1-1 if 1=1", most.length() + 9, 3);
        badRule(most + "-1-1-1 if 1=1", most.length() + 10, 3);
        badRule(most + " if 1=1+1", most.length() + 8, 3);
        badRule(most + " if 1=1 and 1=1", most.length() + 12, 3);
        badRule(most + " if 1=1;wake 1", most.length() + 13, 3);
        // Brackets, not, and, or, wake and if are none of them.
        goodRule(most + " if not [not [[1=1]]]");
        goodRule("wake 1" + ";wake 1".repeat(10) + ";wake 1" + "+1".repeat(48));
        badRule("wake 1" + ";wake 1".repeat(10) + ";wake 1" + "+1".repeat(49), 180, 3);
    }

    private static void aNumberHasOneToFiveDigits() {
        good("ship 00001");
        good("ship 00010;man 00009 00002;order 00099 9;means 00000 00000 00000");
        bad("ship 000001", 5, 1);
        bad("ship 1;man 000000 0", 11, 1);
        bad("ship 1;man 0 000000", 13, 1);
        bad("ship 1;order 000000 0", 13, 1);
        bad("ship 1;means 000000 0 0", 13, 1);
        bad("ship 1;means 0 000000 0", 15, 1);
        bad("ship 1;means 0 0 000000", 17, 1);
        bad("ship 4294967297", 5, 1);
        bad("ship 18446744073709551617", 5, 1);
        goodRule("wake 0");
        goodRule("wake 99999+00000");
        badRule("wake 100000", 5, 1);
        badRule("wake 99999+000000", 11, 1);
        badRule("wake 1 if 1=123456", 12, 1);
    }

    private static void aNumberGoesOnAsFarAsDigits() {
        bad("ship 1 0", 7, 0);
        bad("ship 2;man 10", 11, 1);
        good("ship 2;man 1 0");
        badRule("wake 1 2", 7, 0);
        badRule("wake 12345 6", 11, 0);
    }

    private static void lettersAreSmallOnes() {
        bad("SHIP 1", 0, 0);
        bad("ship 1;Man 0 0", 7, 0);
        bad("shiP 1", 0, 0);
        bad("ship 1;man@0 0", 10, 0);
        badRule("Wake 1", 0, 0);
        badRule("wake MAN", 5, 0);
        badRule("wake 1 IF 1=1", 7, 0);
        badRule("wake man`", 8, 0);
        badRule("wake man{", 8, 0);
    }

    private static void lettersGoOnAsFarAsTheyDo() {
        bad("shipman 1", 0, 0);
        bad("shi 1", 0, 0);
        bad("s hip 1", 0, 0);
        bad("ship 1;orders 0 0", 7, 0);
        bad("ship 1;mean 0 0 0", 7, 0);
        good("ship1;man0 0;order0 0;means0 0 0");
        badRule("wakeman", 0, 0);
        badRule("wake manif man=1", 5, 0);
        badRule("wake 1 ifman=1", 7, 0);
        badRule("wake 1 if notman=1", 10, 0);
        badRule("wake 1 if man=1 andman=1", 16, 0);
        badRule("wake 1 if man=1 orman=1", 16, 0);
        goodRule("wake1if[man=1]and not[man=2]or 3<4");
        goodRule("wake crew%2if not 1=1and 2=2");
    }

    private static void wordsWithAnotherLetter() {
        for (String word : new String[] {"ship", "man", "order", "means"}) {
            String ahead = word.equals("ship") ? "" : "ship 1;";
            String behind = word.equals("ship") ? " 1" : word.equals("means") ? " 0 0 0" : " 0 0";
            good(ahead + word + behind);
            for (int i = 0; i < word.length(); i++) {
                bad(ahead + other(word, i) + behind, ahead.length(), 0);
            }
        }
        String rule = "wake man+word+berth+hour+wind+awake+sick+tired+same+need+crew if not 1=1 and 2=2 or 3=3";
        goodRule(rule);
        int begin = 0;
        for (int i = 0; i < rule.length(); i++) {
            if (Character.isLetter(rule.charAt(i))) {
                badRule(other(rule, i), begin, 0);
            } else {
                begin = i + 1;
            }
        }
    }

    /** A text with a letter changed into one that stands in none of the words. */
    private static String other(String text, int i) {
        return text.substring(0, i) + 'z' + text.substring(i + 1);
    }

    private static void blanksStandAsOneLikes() {
        good("   ship    2   ;   man   1   2   ;   order   5   01   ;   means   0   1   0   ");
        bad("ship 1; ma n 0 0", 8, 0);
        goodRule("   wake   1   +   man   *   2   if   not   [   1   <=   2   ]   or   3   =   3   ;   wake   0   ");
        goodRule("wake 1+man*2if not[1<=2]or 3=3;wake 0");
        badRule("wa ke 1", 0, 0);
        badRule("wake 1 if 1 < = 2", 14, 0);
        badRule("wake 1 if 1 > = 2", 14, 0);
    }

    private static void noOtherByteIsABlank() {
        int[] bytes = {0, 9, 10, 13, 31, 33, 127, 128, 160, 255};
        for (int b : bytes) {
            char sign = (char) b;
            bad("ship" + sign + "1", 4, 0);
            bad(sign + "ship 1", 0, 0);
            bad("ship 1" + sign, 6, 0);
            badRule("wake" + sign + "1", 4, 0);
            badRule("wake 1" + sign, 6, 0);
        }
    }

    private static void signsOfTwoBytes() {
        goodRule("wake 1 if 1<=1");
        goodRule("wake 1 if 1>=1");
        badRule("wake 1 if 1=<1", 12, 0);
        badRule("wake 1 if 1=>1", 12, 0);
        badRule("wake 1 if 1==1", 12, 0);
        badRule("wake 1 if 1<>1", 12, 0);
        badRule("wake 1 if 1<=", 13, 0);
        badRule("wake 1 if 1<", 12, 0);
        badRule("wake 1 if 1!=1", 11, 0);
        // As a place where a sum goes on, they can't stand.
        badRule("wake 1<=1", 6, 0);
    }

    private static void theEndIsBehindTheLastByte() {
        bad("", 0, 0);
        bad(" ", 1, 0);
        bad("ship", 4, 0);
        bad("ship  ", 6, 0);
        bad("ship 1;", 7, 0);
        bad("ship 1;  ", 9, 0);
        badRule("", 0, 0);
        badRule("  ", 2, 0);
        badRule("wake 1 +", 8, 0);
        badRule("wake 1 if [1=1  ", 16, 0);
    }

    private static void aRowWithoutADigit() {
        bad("ship 1;order 5", 14, 0);
        bad("ship 1;order 5   ", 17, 0);
        bad("ship 1;order 5;man 0 0", 14, 0);
        bad("ship 1;order 5  ;man 0 0", 16, 0);
        bad("ship 1;order 5 a", 15, 0);
        bad("ship 1;order 5 -0", 15, 0);
    }

    private static void aNumberNotAsTold() {
        bad("ship 1;man 1 x", 11, 1);
        bad("ship 1;man 0 9;", 13, 1);
        bad("ship 1;order 100", 13, 1);
        bad("ship 1;means 0 5", 15, 1);
    }

    private static void theFirstAlongTheText() {
        bad("ship 0;man 9 9", 5, 1);
        bad("ship 2;man 5 5", 11, 1);
        bad("ship 2;order 100 99999", 13, 1);
        bad("ship 2;order 1 09;ship", 16, 1);
        bad("ship 2;ship 0", 7, 4);
        bad("man 9 9", 0, 4);
        badRule("wake 123456 if [[[[[[[[[[[", 5, 1);
        badRule("wake 1 if " + "[".repeat(11) + "x", 20, 2);
        badRule("wake 1" + "+1".repeat(60) + "+123456", 125, 3);
        badRule("wake 1" + ";wake 1".repeat(12) + "!", 84, 4);
    }

    private static void ofOnePlaceTheLeast() {
        badRule("wake 1" + "+1".repeat(59) + "+x", 125, 0);
        badRule("wake 1" + "+1".repeat(59) + "+000000", 125, 1);
        badRule("wake 1" + "+1".repeat(59) + " if x", 128, 0);
        badRule("wake 1" + "+1".repeat(59) + " if [", 129, 0);
        badRule("wake 1" + "+1".repeat(59) + " if 1", 128, 3);
        badRule("wake 1" + "+1".repeat(58) + " if 1!", 127, 0);
        badRule("wake 1" + "+1".repeat(58) + " if 1=", 127, 3);
        badRule("wake 1" + ";wake 1".repeat(11) + ";man", 84, 0);
        bad("ship 1" + ";man 0 0".repeat(8) + ";mann", 71, 0);
        bad("ship 1" + ";man 0 0".repeat(8) + ";man x", 71, 4);
    }

    private static void aRowTooLongGoesAhead() {
        bad("ship 1;order 1 90000", 15, 1);
        bad("ship 1;order 1 00009", 15, 1);
        bad("ship 1;order 1 09000", 15, 1);
        bad("ship 1;order 1 0900", 16, 1);
    }

    /** Wherever a good text is cut, the fault is at its end, but of a word cut short where that begins. */
    private static void eachPlaceOfAClauseCanEnd() {
        String text = "ship 3;man 2 1;order 9 012;means 0 1 2";
        String goods = " 6 14 24 25 26 38 ";
        for (int n = 0; n <= text.length(); n++) {
            if (goods.contains(" " + n + " ")) {
                good(text.substring(0, n));
            } else {
                int word = text.lastIndexOf(';', n - 1) + 1;
                bad(text.substring(0, n), n < text.indexOf(' ', word) ? word : n, 0);
            }
        }
    }

    private static void aNewObjectHasNothing() {
        ChoirShip x = new ChoirShip();
        Kit.due("no ship", x.sayable(), -1);
        Kit.due("no words, men, orders, means", x.count(0) + x.count(1) + x.count(2) + x.count(3), 0);
        Kit.due("no rules", x.count(4), 0);
        Kit.due("no bytes", x.count(14), 0);
        Kit.due("x", x.count(13), 0);
    }

    private static void feedTakesTheHighestByteFirst() {
        ChoirShip x = new ChoirShip();
        String text = "ship 3;man 2 1;man 1";
        Kit.due("twenty", x.feed(Kit.four(text, 0), Kit.four(text, 4), Kit.four(text, 8), Kit.four(text, 12),
            Kit.four(text, 16)), 20);
        Kit.due("twenty more", x.feed(0x20323b20, BLANKS, BLANKS, BLANKS, 0x6d616e20), 40);
        Kit.due("twenty more", x.feed(0x32203020, BLANKS, BLANKS, BLANKS, BLANKS), 60);
        Kit.due("three men", x.ship(), 3);
        Kit.due("as told", x.man(0, 0) * 1000 + x.man(0, 1) * 100 + x.man(1, 0) * 10 + x.man(1, 1), 2112);
        // A number below 0 has bytes above 127.
        x.feed(-1, -1, -1, -1, -1);
        Kit.due("255", x.ship(), Kit.fault(0, 0));
        x.feed(Integer.MIN_VALUE, 0, 0, 0, 0);
        Kit.due("128", x.ship(), Kit.fault(0, 0));
    }

    private static void fill(ChoirShip x, int bytes) {
        x.end(0);
        for (int i = 0; i < bytes; i += 20) {
            x.feed(BLANKS, BLANKS, BLANKS, BLANKS, BLANKS);
        }
        Kit.due("filled", x.end(bytes), bytes);
    }

    private static void feedRefusesMoreThan400() {
        ChoirShip x = Kit.with("ship 1;man 0 0");
        for (int bytes = 381; bytes <= 400; bytes++) {
            fill(x, bytes);
            Kit.due("at " + bytes, x.feed(1, 2, 3, 4, 5), -1);
            Kit.due("none came at " + bytes, x.count(14), bytes);
        }
        fill(x, 380);
        Kit.due("at 380", x.feed(BLANKS, BLANKS, BLANKS, BLANKS, BLANKS), 400);
        Kit.refused("a full tape", x, -1, y -> y.feed(0, 0, 0, 0, 0), y -> y.feed(-1, -1, -1, -1, -1));
        Kit.due("only blanks came", x.ship(), Kit.fault(400, 0));
    }

    private static void endKeepsTheFirstBytes() {
        ChoirShip x = new ChoirShip();
        Kit.feed(x, "ship 1;man 0 0;man 0 1;!");
        Kit.due("all", x.end(24), 24);
        Kit.due("less", x.end(22), 22);
        Kit.due("so many", x.count(14), 22);
        Kit.due("what is gone stays gone", x.end(23), -1);
        Kit.due("two men", x.ship(), 2);
        Kit.feed(x, "ship 1;man 0 0;");
        Kit.due("none", x.end(0), 0);
        Kit.due("empty", x.ship(), Kit.fault(0, 0));
        Kit.feed(x, "ship 1;order 9 0");
        x.end(6);
        Kit.feed(x, ";man 0 0");
        Kit.due("what comes comes behind these", x.ship(), 1);
    }

    private static void endRefuses() {
        ChoirShip x = Kit.with("ship 1;man 0 0");
        Kit.refused("an empty tape", x, -1, y -> y.end(1), y -> y.end(-1), y -> y.end(Integer.MIN_VALUE));
        Kit.feed(x, "ship 2");
        Kit.refused("six bytes", x, -1, y -> y.end(7), y -> y.end(20), y -> y.end(400), y -> y.end(-1),
            y -> y.end(Integer.MAX_VALUE));
        fill(x, 400);
        Kit.refused("400 bytes", x, -1, y -> y.end(401));
        Kit.due("400", x.end(400), 400);
    }

    private static void shipEmptiesTheTape() {
        ChoirShip x = Kit.with("ship 1;man 0 0;order 5 0");
        Kit.due("empty", x.count(14), 0);
        Kit.due("nothing is no ship", x.ship(), Kit.fault(0, 0));
        x.hour();
        x.done(0, true);
        x.seed(44);
        x.teach(0);
        x.turn(2);
        Kit.due("in place of that", Kit.ship(x, "ship 2;man 1 1;man 0 2"), 2);
        Kit.due("empty", x.count(14), 0);
        Kit.due("hour 0", x.count(5), 0);
        Kit.due("wind 0", x.count(6), 0);
        Kit.due("nothing done", x.count(11), 0);
        Kit.due("nothing to be undone", x.count(12), 0);
        Kit.due("none can", x.undo(), -1);
        Kit.due("x stays", x.count(13), 44);
        Kit.due("the boy has no word", x.count(10), -1);
        Kit.due("no orders", x.count(2), 0);
        Kit.due("the same text again", Kit.ship(x, "ship 2;man 1 1;man 0 2"), 2);
    }

    /** Nothing of a ship is left in those that come behind it, good or bad. */
    private static void shipsOneAfterTheOther() {
        ChoirShip x = new ChoirShip();
        String most = "ship 4" + ";man 3 2".repeat(8) + ";order 9 0123".repeat(8) + tenMeansOf(4);
        for (int i = 0; i < 8; i++) {
            due("the most there can be", Kit.ship(x, most), 8);
            due("meanings", x.count(3), 10);
            due("a bad one", Kit.ship(x, most + "!"), Kit.fault(most.length(), 0));
            due("the least there can be", Kit.ship(x, "ship 4"), 0);
            due("no men, orders, meanings", x.count(1) + x.count(2) + x.count(3), 0);
            due("no meaning", x.means(0, 0), -2);
        }
    }

    private static void aRuleBehindABadOne() {
        ChoirShip x = Kit.with("ship 1;man 0 0");
        due("bad at its end", Kit.rule(x, "wake 0" + "+0".repeat(59) + ";"), Kit.fault(125, 0));
        due("a good one", Kit.rule(x, "wake 1" + "-1+1".repeat(29)), 0);
        due("it alone counts", x.run(0, 1) * 10 + x.count(7), 11);
        due("bad", Kit.rule(x, "wake 1;wake 1;!"), Kit.fault(14, 0));
        due("good", Kit.rule(x, "wake 0"), 1);
        due("it alone counts", x.run(1, 1) * 10 + x.count(7), 20);
        due("bad", Kit.rule(x, "wake 0 if 1=2;wake 1;!"), Kit.fault(21, 0));
        due("good, and none of its clauses holds", Kit.rule(x, "wake 1 if 1=2"), 2);
        x.wake(0, true);
        due("it alone counts", x.run(2, 1) * 10 + x.count(7), 30);
    }

    private static void aBadShipChangesNothing() {
        ChoirShip x = Kit.with("ship 3;man 0 0;man 1 1;order 5 0;means 0 1 2");
        x.hour();
        x.sicken(1, 4);
        x.done(0, true);
        x.seed(7);
        Kit.refused("bad ships", x, Kit.fault(14, 0), y -> Kit.ship(y, "ship 2;man 1 1!"),
            y -> Kit.ship(y, "ship 1;man 0 0,"), y -> Kit.ship(y, "ship 9;means 0"), y -> Kit.ship(y, "ship 4;order 9"));
        Kit.due("its meaning stays", x.means(0, 1), 2);
        Kit.due("undone still", x.undo(), 1);
        Kit.due("well", x.man(1, 3), 0);
    }

    private static void ruleEmptiesTheTape() {
        ChoirShip x = Kit.with("ship 1;man 0 0");
        Kit.due("a rule", Kit.rule(x, "wake 1"), 0);
        Kit.due("empty", x.count(14), 0);
        Kit.refused("bad rules", x, Kit.fault(4, 0), y -> Kit.rule(y, "wake"), y -> Kit.rule(y, "wake!1"));
        Kit.due("the next number", Kit.rule(x, "wake 0"), 1);
        Kit.due("the ship stays", x.count(1), 1);
        Kit.due("the first rule is the first", x.run(0, 1) * 10 + x.count(7), 11);
        Kit.due("the second is the second", x.run(1, 1) * 10 + x.count(7), 20);
    }

    private static void aSeventhRuleIsRefused() {
        ChoirShip x = Kit.with("ship 1;man 0 0");
        for (int r = 0; r < 6; r++) {
            Kit.rule(x, r == 5 ? "wake 1" : "wake 0");
        }
        Kit.feed(x, "wake 0");
        Kit.refused("a seventh", x, -1, y -> y.rule(), y -> y.rule());
        Kit.due("the tape stays", x.count(14), 6);
        x.end(4);
        Kit.refused("a bad seventh", x, -1, y -> y.rule());
        Kit.due("the sixth is as it was", x.run(5, 1) * 10 + x.count(7), 11);
        Kit.due("no seventh", x.run(6, 1), -1);
    }
}
