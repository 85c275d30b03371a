/** Promises 4 and 5: every fault of a ship's and of a rule's text, with its place, and what stays. */
final class FaultsTest {
    public static void main(String[] args) {
        shipWords();
        shipNumbers();
        shipRows();
        shipTooMany();
        shipGood();
        ruleWords();
        ruleNumbers();
        ruleDeep();
        ruleTooMany();
        ruleGood();
        whatStays();
        Kit.finish("FaultsTest");
    }

    private static void ship(String text, int place, int code) {
        ChoirShip x = new ChoirShip();
        Kit.due("ship \"" + text + "\"", Kit.ship(x, text), Kit.fault(place, code));
        Kit.due("no ship after \"" + text + "\"", x.sayable(), -1);
    }

    private static void rule(String text, int place, int code) {
        ChoirShip x = new ChoirShip();
        Kit.due("rule \"" + text + "\"", Kit.rule(x, text), Kit.fault(place, code));
        Kit.due("no rule after \"" + text + "\"", x.count(4), 0);
    }

    private static void shipWords() {
        ship("", 0, 0);
        ship("   ", 3, 0);
        ship("ship", 4, 0);
        ship("ship ", 5, 0);
        ship("ships 1", 0, 0);
        ship("  ships 1", 2, 0);
        ship("Ship 1", 0, 0);
        ship("1", 0, 0);
        ship(";ship 1", 0, 0);
        ship("ship 1;", 7, 0);
        ship("ship 1; ", 8, 0);
        ship("ship 1 1", 7, 0);
        ship("ship 1,man 0 0", 6, 0);
        ship("ship 1;;man 0 0", 7, 0);
        ship("ship x", 5, 0);
        ship("ship -1", 5, 0);
        ship("ship 1\u0000", 6, 0);
        ship("ship 1\u00ff", 6, 0);
        ship("ship 1\t", 6, 0);
        ship("ship 1;boy 0", 7, 0);
        ship("ship 1;man", 10, 0);
        ship("ship 1;man 0", 12, 0);
        ship("ship 1;man 0;", 12, 0);
        ship("ship 1;man 0 0 0", 15, 0);
        ship("ship 1;mano 0 0", 7, 0);
        ship("ship 1;manz 0 0", 7, 0);
        ship("ship 1;man{0 0", 10, 0);
        ship("ship 1;man`0 0", 10, 0);
        ship("ship 1;man 0/0", 12, 0);
        ship("ship 1;man 0:0", 12, 0);
        ship("ship 1;order", 12, 0);
        ship("ship 1;order x 0", 13, 0);
        ship("ship 1;means 0 0", 16, 0);
        ship("ship 1;means 0 0 x", 17, 0);
        ship("ship 1;wake 1", 7, 0);
    }

    private static void shipNumbers() {
        ship("ship 0", 5, 1);
        ship("ship 11", 5, 1);
        ship("ship 000010", 5, 1);
        ship("ship 99999999999999999999", 5, 1);
        ship("ship 1;man 1 0", 11, 1);
        ship("ship 1;man 0 3", 13, 1);
        ship("ship 1;man 1 3", 11, 1);
        ship("ship 1;man 0 000000", 13, 1);
        ship("ship 1;order 100 0", 13, 1);
        ship("ship 1;order 000000 0", 13, 1);
        ship("ship 1;means 1 0 0", 13, 1);
        ship("ship 1;means 0 1 0", 15, 1);
        ship("ship 1;means 0 0 1", 17, 1);
        ship("ship 1;means 0 0 0;means 0 0 0", 27, 1);
        ship("ship 1;means 0 0 0;means 0 0", 27, 1);
        ship("ship 2;means 0 1 0;means 1 0 0;means 0 1 1", 39, 1);
    }

    private static void shipRows() {
        ship("ship 1;order 0", 14, 0);
        ship("ship 1;order 0  ", 16, 0);
        ship("ship 1;order 0 x", 15, 0);
        ship("ship 1;order 0;", 14, 0);
        ship("ship 1;order 0 00000", 15, 1);
        ship("ship 1;order 0 99999", 15, 1);
        ship("ship 1;order 0 01", 16, 1);
        ship("ship 1;order 0 1", 15, 1);
        ship("ship 3;order 0 0123", 18, 1);
        ship("ship 3;order 0 01 2", 18, 0);
    }

    private static void shipTooMany() {
        ship("man 0 0", 0, 4);
        ship("order", 0, 4);
        ship("  means 0 0 0", 2, 4);
        ship("ship 1;ship 1", 7, 4);
        ship("ship 1; ship", 8, 4);
        ship("ship 1" + ";man 0 0".repeat(8) + ";man", 71, 4);
        ship("ship 1" + ";order 0 0".repeat(8) + ";order x", 87, 4);
        String ten = "ship 10";
        for (int i = 0; i < 10; i++) {
            ten += ";means " + i + " 0 0";
        }
        ship(ten + ";means 9 9 9", ten.length() + 1, 4);
        // There are but 27 clauses that are no clause too many of their kind, so the 41st is never met alone.
        String most = ten + ";man 0 0".repeat(8) + ";order 0 0".repeat(8);
        Kit.due("27 clauses", Kit.ship(new ChoirShip(), most), 8);
        ship(most + ";ship 1", most.length() + 1, 4);
        ship(most + ";shop 1", most.length() + 1, 0);
    }

    private static void shipGood() {
        Kit.due("least", Kit.ship(new ChoirShip(), "ship 1"), 0);
        Kit.due("no blanks", Kit.ship(new ChoirShip(), "ship10;man9 2;order99 9090;means0 9 9"), 1);
        Kit.due("blanks", Kit.ship(new ChoirShip(), "  ship   00002  ;  man  1   0 ; order 5 01  "), 1);
    }

    private static void ruleWords() {
        rule("", 0, 0);
        rule("wake", 4, 0);
        rule("wakes 1", 0, 0);
        rule("wake x", 5, 0);
        rule("wake 1;", 7, 0);
        rule("wake 1 if", 9, 0);
        rule("wake 1 if hour", 14, 0);
        rule("wake 1 if hour =", 16, 0);
        rule("wake 1 if hour = 1]", 18, 0);
        rule("wake 1 if [hour = 1", 19, 0);
        rule("wake 1 if hour = 1 = 1", 19, 0);
        rule("wake 1 if hour < = 1", 17, 0);
        rule("wake 1 if hour =< 1", 16, 0);
        rule("wake 1 if hour <== 1", 17, 0);
        rule("wake 1 if hour <> 1", 16, 0);
        rule("wake 1 if [hour] = 1", 15, 0);
        rule("wake 1 if not", 13, 0);
        rule("wake 1 if not hour", 18, 0);
        rule("wake 1 if hour = 1 and", 22, 0);
        rule("wake 1 if hour = 1 or or", 22, 0);
        rule("wake 1 if hour = 1 and if", 23, 0);
        rule("wake 1 if 1 = 1 if", 16, 0);
        rule("wake 5 %", 8, 0);
        rule("wake -1", 5, 0);
        rule("wake 1 + + 1", 9, 0);
        rule("wake 1 2", 7, 0);
        rule("wake [1]", 5, 0);
        rule("wake 1 when hour = 1", 7, 0);
        rule("wake 1;sleep 1", 7, 0);
        rule("wake 1;ship 1", 7, 0);
        rule("wake manword", 5, 0);
        rule("wake boy", 5, 0);
        rule("wake 1 = 1", 7, 0);
        rule("wake 1 if hour = 1;;", 19, 0);
        rule("wake Man", 5, 0);
    }

    private static void ruleNumbers() {
        rule("wake 123456", 5, 1);
        rule("wake 1 + 000000", 9, 1);
        rule("wake 1 if 100000 = 1", 10, 1);
    }

    private static void ruleDeep() {
        rule("wake 1 if " + "[".repeat(11) + "1=1" + "]".repeat(11), 20, 2);
        rule("wake 1 if " + "not ".repeat(11) + "1=1", 50, 2);
        rule("wake 1 if " + "not [".repeat(5) + "not 1=1", 35, 2);
        rule("wake 1 if " + "[not ".repeat(5) + " [1=1", 36, 2);
        good("wake 1 if " + "[".repeat(10) + "1=1" + "]".repeat(10));
        good("wake 1 if " + "not ".repeat(10) + "1=1");
        good("wake 1 if " + "not [".repeat(5) + "1=1 and 2=2" + "]".repeat(5));
        good("wake 1 if " + "[".repeat(10) + "1=1" + "]".repeat(10) + " or " + "not ".repeat(10) + "1=1");
    }

    private static void ruleTooMany() {
        good("wake 1" + "+1".repeat(59));
        rule("wake 1" + "+1".repeat(60), 125, 3);
        rule("wake 1" + "+1".repeat(59) + "+man", 125, 3);
        rule("wake 1" + "+1".repeat(59) + "+boy", 125, 0);
        rule("wake 1" + "+1".repeat(59) + "+123456", 125, 1);
        // 1 + 3 * 19 = 58, and 2 values more: the sign behind is the 61st.
        String facts = "wake 1 if 1=1" + " or 1=1".repeat(18);
        good(facts);
        rule(facts + " or 1+1=1", facts.length() + 7, 3);
        rule(facts + " or 1=1", facts.length() + 6, 3);
        rule("wake 1" + "+1".repeat(58) + " if 1 = 1", 128, 3);
        good("wake 1" + "+1".repeat(56) + " if 1 = 1");
        rule("wake 1" + "+1".repeat(57) + " if 1 = 1", 128, 3);
        // They are counted over all clauses.
        rule("wake 1" + "+1".repeat(29) + ";wake 1" + "+1".repeat(30), 130, 3);
        good("wake 1" + "+1".repeat(29) + ";wake 1" + "+1".repeat(29));
        good("wake 1" + ";wake 1".repeat(11));
        rule("wake 1" + ";wake 1".repeat(12), 84, 4);
        rule("wake 1" + ";wake 1".repeat(11) + "; wake", 85, 4);
        rule("wake 1" + ";wake 1".repeat(11) + "; woke", 85, 0);
        rule("wake 1" + ";wake 1".repeat(11) + ";", 84, 0);
    }

    private static void good(String text) {
        Kit.due("rule \"" + text + "\"", Kit.rule(new ChoirShip(), text), 0);
    }

    private static void ruleGood() {
        good("wake man+word+berth+hour+wind+awake+sick+tired+same+need+crew");
        good("wake1if not1=1");
        good("  wake  1 * 2/3%4 - 5  if  [ 1<2 or 1<=2 ] and not 3>=4 or 5>6  ;  wake 99999 ");
        good("wake 1if 1=1and 2=2or[3=3]");
    }

    private static void whatStays() {
        ChoirShip x = Kit.with("ship 2;man 1 0;order 7 1");
        x.hour();
        x.seed(5);
        x.done(0, true);
        Kit.due("a bad ship", Kit.ship(x, "ship 3;man 2 1;man"), Kit.fault(18, 0));
        Kit.due("words stay", x.count(0), 2);
        Kit.due("men stay", x.count(1), 1);
        Kit.due("man 0's word stays", x.man(0, 0), 1);
        Kit.due("hour stays", x.count(5), 1);
        Kit.due("done stays", x.count(11), 1);
        Kit.due("acts stay", x.count(12), 1);
        Kit.due("x stays", x.count(13), 5);
        Kit.due("the tape is empty", x.count(14), 0);
        Kit.due("a bad rule", Kit.rule(x, "wake"), Kit.fault(4, 0));
        Kit.due("the tape is empty", x.count(14), 0);
        for (int i = 0; i < 6; i++) {
            Kit.due("rule " + i, Kit.rule(x, "wake 1"), i);
        }
        Kit.due("a seventh rule", Kit.rule(x, "wake 1"), -1);
        Kit.due("the tape stays", x.count(14), 6);
        Kit.due("a seventh rule, bad", Kit.rule(x, "!"), -1);
        Kit.due("rules", x.count(4), 6);
    }
}
