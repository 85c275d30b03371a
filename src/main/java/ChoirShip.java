import java.util.Arrays;

/**
 * A ship each of whose crew can say but one word: who is heard, which orders can still be said,
 * and by whom. What each call promises stands in ../shared/DOC.md.
 */
public final class ChoirShip {
    public static final int NONE = -1;

    /** The second kind of refusal that the document tells: there is nothing of that kind. */
    private static final int NOTHING = -2;

    private static final int TAPE_BYTES = 400;
    private static final int MOST_WORDS = 10;
    private static final int MOST_MEN = 8;
    private static final int MOST_ORDERS = 8;
    private static final int MOST_MEANS = 10;
    private static final int MOST_RULES = 6;
    private static final int MOST_IMAGES = 4;
    private static final int MOST_DONE = 10;
    private static final int MOST_ACTS = 20;
    private static final int LAST_HOUR = 999;
    private static final int LONGEST_ROW = 5;
    private static final int LONGEST_ORDER = 4;
    private static final int LAST_WIND = 2;
    private static final int LAST_NEED = 99;
    private static final int BOY = 8;
    private static final int SETS_OF_MEN = 256;
    /** More word rows than 10 words in rows of 5 can make, and the steps back between them. */
    private static final int FAR = 1000000;

    private final Tape tape = new Tape();
    private final Rule[] rules = new Rule[MOST_RULES];
    private int ruleCount = 0;
    /** One more than the ship in use and those of the images, so that one is free to read into. */
    private final Ship[] hulls = new Ship[MOST_IMAGES + 2];
    private final World now;
    private final World[] images = new World[MOST_IMAGES];
    private final Past past = new Past();
    private final Asker asker = new Asker();
    private final int[] row = new int[LONGEST_ROW];

    public ChoirShip() {
        for (int i = 0; i < rules.length; i++) {
            rules[i] = new Rule();
        }
        for (int i = 0; i < hulls.length; i++) {
            hulls[i] = new Ship();
        }
        now = new World(hulls[0]);
        for (int i = 0; i < images.length; i++) {
            images[i] = new World(hulls[0]);
        }
    }

    public int feed(int a, int b, int c, int d, int e) {
        if (tape.length + 20 > TAPE_BYTES) {
            return NONE;
        }
        tape.put(a);
        tape.put(b);
        tape.put(c);
        tape.put(d);
        tape.put(e);
        return tape.length;
    }

    public int end(int n) {
        if (n < 0 || n > tape.length) {
            return NONE;
        }
        tape.length = n;
        return n;
    }

    public int ship() {
        Ship hull = freeHull();
        boolean good = hull.read(tape);
        tape.length = 0;
        if (!good) {
            return NOTHING - tape.fault;
        }
        now.ship = hull;
        now.hands.begin(hull.men);
        now.doneCount = 0;
        past.forget();
        asker.learn(hull);
        return hull.men;
    }

    public int rule() {
        if (ruleCount < 0 || ruleCount >= rules.length) {
            return NONE;
        }
        boolean good = rules[ruleCount].read(tape);
        tape.length = 0;
        if (!good) {
            return NOTHING - tape.fault;
        }
        ruleCount++;
        return ruleCount - 1;
    }

    public int man(int man, int what) {
        if (!now.ship.hasMan(man)) {
            return NONE;
        }
        Hands hands = now.hands;
        switch (what) {
            case 0: return now.ship.word[man];
            case 1: return now.ship.berth[man];
            case 2: return bit(hands.awake, man);
            case 3: return hands.sick[man];
            case 4: return bit(hands.dead, man);
            case 5: return hands.tired[man];
            case 6: return bit(hands.heard(now.ship), man);
            default: return NONE;
        }
    }

    public int order(int order, int what) {
        Ship ship = now.ship;
        if (!ship.hasOrder(order) || what < 0 || what > 5) {
            return NONE;
        }
        if (what == 0) {
            return ship.need[order];
        }
        if (what == 1) {
            return ship.length[order];
        }
        return what - 2 < ship.length[order] ? ship.rowWord(order, what - 2) : NOTHING;
    }

    public int means(int one, int other) {
        if (!now.ship.hasWord(one) || !now.ship.hasWord(other)) {
            return NONE;
        }
        return now.ship.pair(one, other);
    }

    public int meaning(int words, int n) {
        if (!split(words, n)) {
            return NONE;
        }
        for (int i = 0; i < n; i++) {
            if (!now.ship.hasWord(row[i])) {
                return NONE;
            }
        }
        int left = now.ship.settle(row, n);
        int answer = 1;
        for (int i = 0; i < left; i++) {
            answer = answer * 10 + row[i];
        }
        return answer;
    }

    public int say(int men, int n) {
        int set = menOf(men, n);
        if (set == NONE || (set & ~now.hands.heard(now.ship)) != 0) {
            return NONE;
        }
        past.keep(now.hands);
        wordsOf(n, set);
        return now.ship.orderOf(row, now.ship.settle(row, n));
    }

    public int hour() {
        if (!now.ship.sails() || now.hands.hour >= LAST_HOUR) {
            return NONE;
        }
        past.keep(now.hands);
        now.hands.pass();
        return now.hands.hour;
    }

    public boolean wake(int man, boolean is) {
        if (!lives(man) || (bit(now.hands.awake, man) == 1) == is) {
            return false;
        }
        past.keep(now.hands);
        now.hands.rouse(man, is);
        return true;
    }

    public int sicken(int man, int n) {
        if (!lives(man) || n < 0 || n > 9) {
            return NONE;
        }
        past.keep(now.hands);
        int was = now.hands.sick[man];
        now.hands.sick[man] = n;
        return was;
    }

    public int die(int man) {
        if (!lives(man)) {
            return NONE;
        }
        past.keep(now.hands);
        now.hands.dead |= 1 << man;
        now.hands.awake &= ~(1 << man);
        return Integer.bitCount(now.hands.living(now.ship));
    }

    public int teach(int word) {
        if (!now.ship.hasWord(word) || word == now.hands.boy) {
            return NOTHING;
        }
        past.keep(now.hands);
        int was = now.hands.boy;
        now.hands.boy = word;
        return was;
    }

    public int turn(int wind) {
        if (!now.ship.sails() || wind < 0 || wind > LAST_WIND || wind == now.hands.wind) {
            return NONE;
        }
        past.keep(now.hands);
        int was = now.hands.wind;
        now.hands.wind = wind;
        return was;
    }

    public int undo() {
        return past.restore(now.hands) ? past.held : NONE;
    }

    public int run(int rule, int n) {
        if (!now.ship.sails() || rule < 0 || rule >= ruleCount || rule >= rules.length) {
            return NONE;
        }
        if (n < 1 || n > 60 || now.hands.hour + n > LAST_HOUR) {
            return NONE;
        }
        for (int i = 0; i < n; i++) {
            rouseAll(rules[rule]);
            now.hands.pass();
        }
        past.forget();
        return now.hands.hour;
    }

    public int sayable() {
        return now.ship.sails() ? asker.canSay(now.ship, now.hands) : NONE;
    }

    public int shortest(int order, int what) {
        if (!now.ship.hasOrder(order) || what < 0 || what > LONGEST_ROW) {
            return NONE;
        }
        asker.findShortest(now.ship, now.hands, order);
        if (asker.bestLength == 0) {
            return NOTHING;
        }
        if (what == 0) {
            return asker.bestLength;
        }
        return what <= asker.bestLength ? asker.best[what - 1] : NOTHING;
    }

    public int fewest(int orders, int what) {
        if (!now.ship.hasOrders(orders) || what < 0 || what > 1) {
            return NONE;
        }
        int set = asker.fewestMen(now.ship, now.hands, orders);
        return set < 0 || what == 1 ? set : Integer.bitCount(set);
    }

    public int watches(int need, int what) {
        if (!now.ship.sails() || need < 0 || need > LAST_NEED || what < 0 || what > 1) {
            return NONE;
        }
        int first = asker.firstWatch(now.ship, now.hands, need);
        return first < 0 || what == 0 ? first : now.hands.living(now.ship) & ~first;
    }

    public int boy(int what) {
        if (!now.ship.sails() || what < 0 || what > 1) {
            return NONE;
        }
        int word = asker.bestLesson(now.ship, now.hands);
        return what == 0 ? word : asker.needWith(now.ship, now.hands, word);
    }

    public int lacks(int order, int what) {
        if (!now.ship.hasOrder(order) || what < 0 || what > 2) {
            return NONE;
        }
        asker.findLacks(now.ship, now.hands, order);
        if (asker.lackCount > 2 || what > asker.lackCount) {
            return NOTHING;
        }
        return what == 0 ? asker.lackCount : asker.lackWord(what - 1);
    }

    public int nearest(int men, int n, int what) {
        int set = menOf(men, n);
        if (set == NONE || what < 0 || what > 1) {
            return NONE;
        }
        int left = now.ship.settle(row, wordsOf(n, now.hands.heard(now.ship)));
        asker.findNearest(now.ship, row, left);
        return what == 0 ? asker.nearOrder : asker.nearChanges;
    }

    public int done(int order, boolean said) {
        if (order == NONE) {
            now.doneCount = 0;
            return 0;
        }
        if (!now.ship.hasOrder(order) || now.doneCount >= MOST_DONE) {
            return NOTHING;
        }
        now.tell(order, said);
        return now.doneCount;
    }

    public int awake(int what) {
        if (!now.ship.sails() || what < 0 || what > 2) {
            return NONE;
        }
        asker.gather(now);
        if (what == 0) {
            return asker.sets;
        }
        return what == 1 ? asker.inAll : asker.inNone;
    }

    public int ask(int what) {
        if (!now.ship.sails() || what < 0 || what > 1) {
            return NONE;
        }
        asker.gather(now);
        if (asker.sets == 0 || now.ship.orders == 0) {
            return NOTHING;
        }
        int order = asker.bestQuestion(now.ship.orders);
        return what == 0 ? order : asker.greaterPart(order);
    }

    public int seed(int x) {
        if (x < 0) {
            return NONE;
        }
        int was = now.x;
        now.x = x;
        return was;
    }

    public int voyages(int m, int n, int p, int what) {
        if (!now.ship.sails() || m < 1 || m > 10 || n < 1 || n > 20) {
            return NONE;
        }
        if (p < 0 || p > 100 || what < 0 || what > 1) {
            return NONE;
        }
        asker.sail(now, m, n, p);
        return what == 0 ? asker.unsaid : asker.unsaidNeed;
    }

    public int count(int what) {
        Hands hands = now.hands;
        switch (what) {
            case 0: return now.ship.words;
            case 1: return now.ship.men;
            case 2: return now.ship.orders;
            case 3: return now.ship.meanings;
            case 4: return ruleCount;
            case 5: return hands.hour;
            case 6: return hands.wind;
            case 7: return hands.awake;
            case 8: return hands.heard(now.ship);
            case 9: return hands.dead;
            case 10: return hands.boy;
            case 11: return now.doneCount;
            case 12: return past.held;
            case 13: return now.x;
            case 14: return tape.length;
            default: return NONE;
        }
    }

    public int image(int k) {
        if (k < 0 || k >= images.length) {
            return NONE;
        }
        images[k].copy(now);
        images[k].made = true;
        return now.hands.hour;
    }

    public int back(int k) {
        if (k < 0 || k >= images.length || !images[k].made) {
            return NONE;
        }
        now.copy(images[k]);
        past.forget();
        asker.learn(now.ship);
        return now.hands.hour;
    }

    private static int bit(int set, int i) {
        return set >> i & 1;
    }

    private boolean lives(int man) {
        return now.ship.hasMan(man) && bit(now.hands.dead, man) == 0;
    }

    /** A hull that neither the ship in use nor an image needs: there is one more than those. */
    private Ship freeHull() {
        int found = 0;
        for (int i = 0; i < hulls.length; i++) {
            if (!inUse(hulls[i])) {
                found = i;
            }
        }
        return hulls[found];
    }

    private boolean inUse(Ship hull) {
        boolean used = now.ship == hull;
        for (int i = 0; i < images.length; i++) {
            used = used || images[i].made && images[i].ship == hull;
        }
        return used;
    }

    /** The n digits of a number into the row; false if they are not 1 to 5, or the number has more. */
    private boolean split(int number, int n) {
        if (number < 0 || n < 1 || n > LONGEST_ROW) {
            return false;
        }
        int rest = number;
        for (int i = n - 1; i >= 0; i--) {
            row[i] = rest % 10;
            rest /= 10;
        }
        return rest == 0;
    }

    /** Splits a number into men, each once, the boy only with a word: the set of them, or NONE. */
    private int menOf(int men, int n) {
        if (!split(men, n)) {
            return NONE;
        }
        int set = 0;
        for (int i = 0; i < n; i++) {
            boolean known = now.ship.hasMan(row[i]) || row[i] == BOY && now.hands.boy >= 0;
            if (!known || bit(set, row[i]) == 1) {
                return NONE;
            }
            set |= 1 << row[i];
        }
        return set;
    }

    /** Puts words in place of the row's men, leaving out who is not in a set: how many stand. */
    private int wordsOf(int n, int kept) {
        int stand = 0;
        for (int i = 0; i < n && i < row.length; i++) {
            int man = row[i];
            if (bit(kept, man) == 1 && stand < row.length) {
                row[stand] = man == BOY ? now.hands.boy : now.ship.wordOf(man);
                stand++;
            }
        }
        return stand;
    }

    private void rouseAll(Rule rule) {
        for (int man = 0; man < now.ship.men; man++) {
            if (lives(man)) {
                now.hands.rouse(man, rule.wakes(now.ship, now.hands, man));
            }
        }
    }

    /** The bytes that were fed, and the reading of them unit by unit. */
    private static final class Tape {
        static final int END = 0;
        static final int NUMBER = 1;
        static final int LETTERS = 2;
        static final int SIGN = 3;
        /** What a sign's number is more by when = stands right behind it. */
        static final int OR_SAME = 256;

        final int[] bytes = new int[TAPE_BYTES];
        int length = 0;
        /** Of the unit that stands next to be read. */
        int kind = END;
        int place = 0;
        int behind = 0;
        int size = 0;
        int number = 0;
        int fault = 0;

        void put(int four) {
            for (int shift = 24; shift >= 0; shift -= 8) {
                if (length >= 0 && length < bytes.length) {
                    bytes[length] = four >> shift & 255;
                    length++;
                }
            }
        }

        void start() {
            fault = 0;
            behind = 0;
            advance();
        }

        void advance() {
            int at = behind;
            while (at < length && byteAt(at) == ' ') {
                at++;
            }
            place = at;
            number = 0;
            kind = kindOf(byteAt(at));
            if (kind == SIGN) {
                number = byteAt(at);
                at++;
                if ((number == '<' || number == '>') && byteAt(at) == '=') {
                    number += OR_SAME;
                    at++;
                }
            } else {
                while (at < length && kindOf(byteAt(at)) == kind) {
                    if (kind == NUMBER && at - place < 5) {
                        number = number * 10 + byteAt(at) - '0';
                    }
                    at++;
                }
            }
            behind = at;
            size = at - place;
        }

        int byteAt(int i) {
            return i >= 0 && i < length && i < bytes.length ? bytes[i] : NONE;
        }

        boolean isWord(String text) {
            if (kind != LETTERS || size != text.length()) {
                return false;
            }
            for (int i = 0; i < size; i++) {
                if (byteAt(place + i) != text.charAt(i)) {
                    return false;
                }
            }
            return true;
        }

        /** Which word of a list (a blank behind each) the letters are, from 0 on; NONE of them. */
        int wordOf(String list) {
            int word = 0;
            int same = 0;
            for (int i = 0; kind == LETTERS && i < list.length(); i++) {
                char letter = list.charAt(i);
                if (letter != ' ') {
                    boolean goesOn = same >= 0 && same < size && byteAt(place + same) == letter;
                    same = goesOn ? same + 1 : NONE;
                } else if (same == size) {
                    return word;
                } else {
                    word++;
                    same = 0;
                }
            }
            return NONE;
        }

        boolean isSign(int sign) {
            return kind == SIGN && number == sign;
        }

        boolean blame(int where, int why) {
            fault = 1 + 8 * where + why;
            return false;
        }

        private static int kindOf(int sign) {
            if (sign < 0) {
                return END;
            }
            if (sign >= '0' && sign <= '9') {
                return NUMBER;
            }
            return sign >= 'a' && sign <= 'z' ? LETTERS : SIGN;
        }
    }

    /** What a text told of words, men, orders and meanings; without words there is no ship. */
    private static final class Ship {
        private static final int MOST_CLAUSES = 40;
        private static final String CLAUSES = "ship man order means ";

        int words = 0;
        int men = 0;
        int orders = 0;
        int meanings = 0;
        final int[] word = new int[MOST_MEN];
        final int[] berth = new int[MOST_MEN];
        final int[] need = new int[MOST_ORDERS];
        final int[] length = new int[MOST_ORDERS];
        final int[] rows = new int[MOST_ORDERS * LONGEST_ORDER];
        final int[] one = new int[MOST_MEANS];
        final int[] other = new int[MOST_MEANS];
        final int[] third = new int[MOST_MEANS];
        /** By two words what they mean together, so that no search is needed. */
        final int[] together = new int[MOST_WORDS * MOST_WORDS];

        boolean sails() {
            return words > 0;
        }

        boolean hasWord(int w) {
            return w >= 0 && w < words;
        }

        boolean hasMan(int m) {
            return m >= 0 && m < men && m < MOST_MEN;
        }

        boolean hasOrder(int o) {
            return o >= 0 && o < orders && o < MOST_ORDERS;
        }

        /** A set of orders as bits; without a ship there are no orders, so not the empty set either. */
        boolean hasOrders(int set) {
            return sails() && set >= 0 && set < 1 << orders;
        }

        int wordOf(int m) {
            return m >= 0 && m < men && m < MOST_MEN ? word[m] : NONE;
        }

        int rowWord(int o, int i) {
            boolean stands = hasOrder(o) && i >= 0 && i < LONGEST_ORDER && i < length[o];
            return stands ? rows[o * LONGEST_ORDER + i] : NONE;
        }

        int pair(int a, int b) {
            boolean known = a >= 0 && a < MOST_WORDS && b >= 0 && b < MOST_WORDS;
            return known ? together[a * MOST_WORDS + b] : NOTHING;
        }

        /** Makes the meaning of the first n words of a row, in it: how many words are left. */
        int settle(int[] row, int n) {
            int left = Math.min(n, row.length);
            for (int at = firstPair(row, left); at >= 0 && left > 1; at = firstPair(row, left)) {
                row[at] = pair(row[at], row[at + 1]);
                for (int i = at + 1; i < left - 1; i++) {
                    row[i] = row[i + 1];
                }
                left--;
            }
            return left;
        }

        private int firstPair(int[] row, int n) {
            for (int i = 0; i + 1 < n && i + 1 < row.length; i++) {
                if (pair(row[i], row[i + 1]) >= 0) {
                    return i;
                }
            }
            return NONE;
        }

        /** The least order with these words for a row. */
        int orderOf(int[] row, int n) {
            for (int o = 0; o < orders; o++) {
                if (isRow(o, row, n)) {
                    return o;
                }
            }
            return NOTHING;
        }

        /** An order whose row has a meaning of its own, or was told before, is said by no row. */
        boolean canBeMeant(int o) {
            if (!hasOrder(o)) {
                return false;
            }
            for (int i = 0; i + 1 < length[o]; i++) {
                if (pair(rowWord(o, i), rowWord(o, i + 1)) >= 0) {
                    return false;
                }
            }
            for (int before = 0; before < o; before++) {
                if (sameRows(before, o)) {
                    return false;
                }
            }
            return true;
        }

        private boolean sameRows(int a, int b) {
            boolean same = length[a] == length[b];
            for (int i = 0; same && i < length[b]; i++) {
                same = rowWord(a, i) == rowWord(b, i);
            }
            return same;
        }

        /** Whether a meaning can part a word behind another one, its two not meaning more with that. */
        boolean parts(int before, int w, int k) {
            boolean stands = k >= 0 && k < meanings && k < MOST_MEANS;
            return stands && third[k] == w && pair(before, one[k]) < 0;
        }

        private boolean isRow(int o, int[] row, int n) {
            if (!hasOrder(o) || length[o] != n || n > row.length) {
                return false;
            }
            for (int i = 0; i < n; i++) {
                if (rowWord(o, i) != row[i]) {
                    return false;
                }
            }
            return true;
        }

        boolean read(Tape tape) {
            words = 0;
            men = 0;
            orders = 0;
            meanings = 0;
            Arrays.fill(together, NOTHING);
            tape.start();
            for (int clause = 0; clause <= MOST_CLAUSES; clause++) {
                if (!readClause(tape, clause)) {
                    return false;
                }
                if (tape.kind == Tape.END) {
                    return true;
                }
                if (!tape.isSign(';')) {
                    return tape.blame(tape.place, 0);
                }
                tape.advance();
            }
            return false;
        }

        private boolean readClause(Tape tape, int clause) {
            int kind = tape.wordOf(CLAUSES);
            if (kind < 0) {
                return tape.blame(tape.place, 0);
            }
            boolean astray = (kind == 0) != (clause == 0);
            if (astray || clause >= MOST_CLAUSES || isFull(kind)) {
                return tape.blame(tape.place, 4);
            }
            tape.advance();
            switch (kind) {
                case 0: return readWords(tape);
                case 1: return readMan(tape);
                case 2: return readOrder(tape);
                default: return readMeans(tape);
            }
        }

        private boolean isFull(int kind) {
            switch (kind) {
                case 1: return men >= MOST_MEN;
                case 2: return orders >= MOST_ORDERS;
                case 3: return meanings >= MOST_MEANS;
                default: return false;
            }
        }

        private boolean readWords(Tape tape) {
            int n = readNumber(tape, 1, MOST_WORDS);
            if (n < 0) {
                return false;
            }
            words = n;
            return true;
        }

        private boolean readMan(Tape tape) {
            int w = readNumber(tape, 0, words - 1);
            int b = w < 0 ? NONE : readNumber(tape, 0, LAST_WIND);
            if (b < 0 || men >= MOST_MEN) {
                return false;
            }
            word[men] = w;
            berth[men] = b;
            men++;
            return true;
        }

        private boolean readOrder(Tape tape) {
            int n = readNumber(tape, 0, LAST_NEED);
            if (n < 0 || orders >= MOST_ORDERS) {
                return false;
            }
            if (tape.kind != Tape.NUMBER) {
                return tape.blame(tape.place, 0);
            }
            int size = tape.size;
            if (size > LONGEST_ORDER) {
                return tape.blame(tape.place, 1);
            }
            for (int i = 0; i < size; i++) {
                int w = tape.byteAt(tape.place + i) - '0';
                if (!hasWord(w)) {
                    return tape.blame(tape.place + i, 1);
                }
                rows[orders * LONGEST_ORDER + i] = w;
            }
            need[orders] = n;
            length[orders] = size;
            orders++;
            tape.advance();
            return true;
        }

        private boolean readMeans(Tape tape) {
            int a = readNumber(tape, 0, words - 1);
            if (a < 0) {
                return false;
            }
            int second = tape.place;
            int b = readNumber(tape, 0, words - 1);
            if (b < 0) {
                return false;
            }
            if (pair(a, b) >= 0) {
                return tape.blame(second, 1);
            }
            int c = readNumber(tape, 0, words - 1);
            if (c < 0 || meanings >= MOST_MEANS) {
                return false;
            }
            one[meanings] = a;
            other[meanings] = b;
            third[meanings] = c;
            together[a * MOST_WORDS + b] = c;
            meanings++;
            return true;
        }

        /** NONE, and the tape has its fault, if no number from least to most stands there. */
        private static int readNumber(Tape tape, int least, int most) {
            if (tape.kind != Tape.NUMBER) {
                tape.blame(tape.place, 0);
                return NONE;
            }
            int n = tape.number;
            if (tape.size > 5 || n < least || n > most) {
                tape.blame(tape.place, 1);
                return NONE;
            }
            tape.advance();
            return n;
        }
    }

    /** A rule as a row of steps, those of two values behind these; steps below 0 are no numbers. */
    private static final class Rule {
        private static final int MOST_CLAUSES = 12;
        private static final int DEEPEST = 10;
        private static final int MOST_PARTS = 60;

        /** In the order of their steps, from that of man down to that of crew. */
        private static final String LETTERS = "man word berth hour wind awake sick tired same need crew ";
        private static final int MAN = -1;
        private static final int WORD = -2;
        private static final int BERTH = -3;
        private static final int HOUR = -4;
        private static final int WIND = -5;
        private static final int AWAKE = -6;
        private static final int SICK = -7;
        private static final int TIRED = -8;
        private static final int SAME = -9;
        private static final int NEED = -10;
        private static final int CREW = -11;
        private static final int NOT = -12;
        private static final int AND = -13;
        private static final int OR = -14;
        /** The end of a clause without a test, and of one with it. */
        private static final int SURE = -15;
        private static final int TRIED = -16;
        /** Steps by a sign are this less the sign's number. */
        private static final int BY_SIGN = -100;

        private final int[] steps = new int[TAPE_BYTES + MOST_CLAUSES];
        private int size = 0;
        private int parts = 0;
        private final long[] values = new long[MOST_PARTS + 4];
        private int top = 0;

        boolean read(Tape tape) {
            size = 0;
            parts = 0;
            tape.start();
            for (int clause = 0; clause <= MOST_CLAUSES; clause++) {
                if (!tape.isWord("wake")) {
                    return tape.blame(tape.place, 0);
                }
                if (clause >= MOST_CLAUSES) {
                    return tape.blame(tape.place, 4);
                }
                tape.advance();
                if (!readSum(tape)) {
                    return false;
                }
                boolean tests = tape.isWord("if");
                if (tests) {
                    tape.advance();
                    if (!readTest(tape, 0)) {
                        return false;
                    }
                }
                step(tests ? TRIED : SURE);
                if (tape.kind == Tape.END) {
                    return true;
                }
                if (!tape.isSign(';')) {
                    return tape.blame(tape.place, 0);
                }
                tape.advance();
            }
            return false;
        }

        /** An or waits till the facts joined by and behind it are read. */
        private boolean readTest(Tape tape, int depth) {
            boolean waits = false;
            boolean goes = readFact(tape, depth);
            for (int i = 0; goes && i < TAPE_BYTES; i++) {
                boolean joins = tape.isWord("and");
                if (!joins && !tape.isWord("or")) {
                    break;
                }
                if (!joins && waits) {
                    step(OR);
                }
                waits = waits || !joins;
                tape.advance();
                goes = readFact(tape, depth);
                if (joins) {
                    step(AND);
                }
            }
            if (waits) {
                step(OR);
            }
            return goes;
        }

        private boolean readFact(Tape tape, int depth) {
            boolean turned = tape.isWord("not");
            boolean opens = tape.isSign('[');
            if ((turned || opens) && depth >= DEEPEST) {
                return tape.blame(tape.place, 2);
            }
            if (turned) {
                tape.advance();
                boolean good = readFact(tape, depth + 1);
                step(NOT);
                return good;
            }
            if (opens) {
                tape.advance();
                return readTest(tape, depth + 1) && readClosing(tape);
            }
            if (!readSum(tape)) {
                return false;
            }
            int sign = tape.kind == Tape.SIGN ? tape.number : NONE;
            if (!compares(sign)) {
                return tape.blame(tape.place, 0);
            }
            if (parts >= MOST_PARTS) {
                return tape.blame(tape.place, 3);
            }
            parts++;
            tape.advance();
            boolean good = readSum(tape);
            step(BY_SIGN - sign);
            return good;
        }

        private static boolean readClosing(Tape tape) {
            if (!tape.isSign(']')) {
                return tape.blame(tape.place, 0);
            }
            tape.advance();
            return true;
        }

        /** A + or - waits till the values joined by * / % behind it are read. */
        private boolean readSum(Tape tape) {
            int waits = NONE;
            boolean goes = readValue(tape);
            for (int i = 0; goes && i < TAPE_BYTES; i++) {
                int sign = tape.kind == Tape.SIGN ? tape.number : NONE;
                boolean binds = sign == '*' || sign == '/' || sign == '%';
                if (!binds && sign != '+' && sign != '-') {
                    break;
                }
                if (!binds && waits >= 0) {
                    step(BY_SIGN - waits);
                }
                waits = binds ? waits : sign;
                tape.advance();
                goes = readValue(tape);
                if (binds) {
                    step(BY_SIGN - sign);
                }
            }
            if (waits >= 0) {
                step(BY_SIGN - waits);
            }
            return goes;
        }

        private boolean readValue(Tape tape) {
            boolean digits = tape.kind == Tape.NUMBER;
            int letters = tape.wordOf(LETTERS);
            if (!digits && letters < 0) {
                return tape.blame(tape.place, 0);
            }
            if (digits && tape.size > 5) {
                return tape.blame(tape.place, 1);
            }
            if (parts >= MOST_PARTS) {
                return tape.blame(tape.place, 3);
            }
            parts++;
            step(digits ? tape.number : MAN - letters);
            tape.advance();
            return true;
        }

        private static boolean compares(int sign) {
            return sign == '<' || sign == '=' || sign == '>'
                || sign == '<' + Tape.OR_SAME || sign == '>' + Tape.OR_SAME;
        }

        private void step(int code) {
            if (size >= 0 && size < steps.length) {
                steps[size] = code;
                size++;
            }
        }

        /** Whether the first clause without a test, or whose test holds, has a sum above 0. */
        boolean wakes(Ship ship, Hands hands, int man) {
            top = 0;
            for (int i = 0; i < size && i < steps.length; i++) {
                int code = steps[i];
                if (code == SURE) {
                    return pop() > 0;
                }
                if (code == TRIED) {
                    boolean holds = pop() != 0;
                    long sum = pop();
                    if (holds) {
                        return sum > 0;
                    }
                } else if (code >= 0) {
                    push(code);
                } else if (code >= CREW) {
                    push(letters(code, ship, hands, man));
                } else if (code == NOT) {
                    push(pop() == 0 ? 1 : 0);
                } else {
                    long second = pop();
                    long first = pop();
                    push(combined(code, first, second));
                }
            }
            return false;
        }

        private void push(long value) {
            if (top >= 0 && top < values.length) {
                values[top] = value;
                top++;
            }
        }

        private long pop() {
            if (top < 1 || top > values.length) {
                return 0;
            }
            top--;
            return values[top];
        }

        private static long combined(int code, long a, long b) {
            if (code == AND || code == OR) {
                return code == AND ? a & b : a | b;
            }
            switch (BY_SIGN - code) {
                case '+': return a + b;
                case '-': return a - b;
                case '*': return a * b;
                case '/': return b == 0 ? 0 : a / b;
                case '%': return b == 0 ? 0 : a % b;
                case '<': return a < b ? 1 : 0;
                case '=': return a == b ? 1 : 0;
                case '>': return a > b ? 1 : 0;
                case '<' + Tape.OR_SAME: return a <= b ? 1 : 0;
                case '>' + Tape.OR_SAME: return a >= b ? 1 : 0;
                default: return 0;
            }
        }

        private static long letters(int code, Ship ship, Hands hands, int man) {
            if (!ship.hasMan(man)) {
                return 0;
            }
            switch (code) {
                case MAN: return man;
                case WORD: return ship.word[man];
                case BERTH: return ship.berth[man];
                case HOUR: return hands.hour;
                case WIND: return hands.wind;
                case AWAKE: return Integer.bitCount(hands.awake & ~(1 << man));
                case SICK: return hands.sick[man];
                case TIRED: return hands.tired[man];
                case SAME: return others(ship, hands, man);
                case NEED: return greatestNeed(ship, ship.word[man]);
                case CREW: return Integer.bitCount(hands.living(ship));
                default: return 0;
            }
        }

        private static int others(Ship ship, Hands hands, int man) {
            int found = 0;
            for (int m = 0; m < ship.men; m++) {
                boolean counts = m != man && bit(hands.dead, m) == 0;
                if (counts && ship.wordOf(m) == ship.wordOf(man)) {
                    found++;
                }
            }
            return found;
        }

        private static int greatestNeed(Ship ship, int word) {
            int greatest = 0;
            for (int o = 0; o < ship.orders && o < MOST_ORDERS; o++) {
                for (int i = 0; i < ship.length[o]; i++) {
                    if (ship.rowWord(o, i) == word) {
                        greatest = Math.max(greatest, ship.need[o]);
                    }
                }
            }
            return greatest;
        }
    }

    /** How all hands are at an hour: all that an act can change. */
    private static final class Hands {
        int awake = 0;
        int dead = 0;
        int hour = 0;
        int wind = 0;
        int boy = NONE;
        final int[] sick = new int[MOST_MEN];
        final int[] tired = new int[MOST_MEN];

        void begin(int men) {
            awake = (1 << men) - 1;
            dead = 0;
            hour = 0;
            wind = 0;
            boy = NONE;
            Arrays.fill(sick, 0);
            Arrays.fill(tired, 0);
        }

        void copy(Hands from) {
            awake = from.awake;
            dead = from.dead;
            hour = from.hour;
            wind = from.wind;
            boy = from.boy;
            System.arraycopy(from.sick, 0, sick, 0, MOST_MEN);
            System.arraycopy(from.tired, 0, tired, 0, MOST_MEN);
        }

        void rouse(int man, boolean is) {
            awake = is ? awake | 1 << man : awake & ~(1 << man);
        }

        void pass() {
            hour++;
            for (int m = 0; m < MOST_MEN; m++) {
                sick[m] = Math.max(0, sick[m] - 1);
                tired[m] = bit(awake, m) == 1 ? tired[m] + 1 : 0;
            }
        }

        int living(Ship ship) {
            return (1 << ship.men) - 1 & ~dead;
        }

        /** Men who would be heard if they were awake. */
        int fit(Ship ship) {
            int set = living(ship);
            for (int m = 0; m < ship.men && m < MOST_MEN; m++) {
                boolean lee = wind != 0 && ship.berth[m] == wind;
                if (lee || sick[m] > 0) {
                    set &= ~(1 << m);
                }
            }
            return set;
        }

        int heard(Ship ship) {
            int set = fit(ship) & awake;
            return boy >= 0 ? set | 1 << BOY : set;
        }
    }

    /** All that an image keeps. */
    private static final class World {
        Ship ship;
        final Hands hands = new Hands();
        int doneCount = 0;
        final int[] doneOrder = new int[MOST_DONE];
        int doneSaid = 0;
        int x = 0;
        boolean made = false;

        World(Ship first) {
            ship = first;
        }

        void copy(World from) {
            ship = from.ship;
            hands.copy(from.hands);
            doneCount = from.doneCount;
            System.arraycopy(from.doneOrder, 0, doneOrder, 0, MOST_DONE);
            doneSaid = from.doneSaid;
            x = from.x;
        }

        void tell(int order, boolean said) {
            if (doneCount < 0 || doneCount >= MOST_DONE) {
                return;
            }
            doneOrder[doneCount] = order;
            int one = 1 << doneCount;
            doneSaid = said ? doneSaid | one : doneSaid & ~one;
            doneCount++;
        }

        /** Whether all that was done is so for those who can say these orders. */
        boolean agrees(int orders) {
            for (int i = 0; i < doneCount && i < MOST_DONE; i++) {
                if (bit(orders, doneOrder[i]) != bit(doneSaid, i)) {
                    return false;
                }
            }
            return true;
        }
    }

    /** How the hands were ahead of each of the last acts, in a ring. */
    private static final class Past {
        private final Hands[] ring = new Hands[MOST_ACTS];
        private int last = 0;
        int held = 0;

        Past() {
            for (int i = 0; i < ring.length; i++) {
                ring[i] = new Hands();
            }
        }

        void forget() {
            held = 0;
        }

        void keep(Hands hands) {
            last = (last + 1) % MOST_ACTS;
            ring[last].copy(hands);
            held = Math.min(held + 1, MOST_ACTS);
        }

        boolean restore(Hands hands) {
            if (held < 1) {
                return false;
            }
            hands.copy(ring[last]);
            last = (last + MOST_ACTS - 1) % MOST_ACTS;
            held--;
            return true;
        }
    }

    /**
     * All rows of up to 5 words that mean an order's row, one after the other: from that row back,
     * a word being parted in two wherever those two would be the first to have a meaning.
     */
    private static final class Rows {
        private Ship ship = null;
        /** A row of each length, each made of the one that is shorter by one. */
        private final int[] words = new int[(LONGEST_ROW + 1) * LONGEST_ROW];
        /** Where in the row of a length, and by which meaning, it is to be parted next. */
        private final int[] place = new int[LONGEST_ROW + 1];
        private final int[] next = new int[LONGEST_ROW + 1];
        private int root = 0;
        private boolean fresh = false;
        int length = 0;

        void begin(Ship of, int order) {
            ship = of;
            fresh = true;
            root = of.canBeMeant(order) ? of.length[order] : 0;
            for (int i = 0; i < root; i++) {
                words[root * LONGEST_ROW + i] = of.rowWord(order, i);
            }
            length = root;
            place[root] = 0;
            next[root] = 0;
        }

        int wordAt(int i) {
            return at(length, i);
        }

        private int at(int row, int i) {
            boolean stands = row >= 0 && row <= LONGEST_ROW && i >= 0 && i < row;
            return stands ? words[row * LONGEST_ROW + i] : NONE;
        }

        boolean advance() {
            if (fresh) {
                fresh = false;
                return length > 0;
            }
            for (int i = 0; i < FAR && length >= root && length > 0; i++) {
                if (length < LONGEST_ROW && part()) {
                    length++;
                    return true;
                }
                length--;
            }
            return false;
        }

        private boolean part() {
            if (ship == null) {
                return false;
            }
            for (int i = place[length]; i < length; i++) {
                if (i > 1 && ship.pair(at(length, i - 2), at(length, i - 1)) >= 0) {
                    return false;
                }
                for (int k = next[length]; k < ship.meanings; k++) {
                    if (ship.parts(at(length, i - 1), at(length, i), k)) {
                        place[length] = i;
                        next[length] = k + 1;
                        grow(i, ship.one[k], ship.other[k]);
                        return true;
                    }
                }
                next[length] = 0;
            }
            return false;
        }

        private void grow(int i, int a, int b) {
            int from = length * LONGEST_ROW;
            int to = from + LONGEST_ROW;
            System.arraycopy(words, from, words, to, i);
            words[to + i] = a;
            words[to + i + 1] = b;
            System.arraycopy(words, from + i + 1, words, to + i + 2, length - i - 1);
            place[length + 1] = 0;
            next[length + 1] = 0;
        }
    }

    /** By which words, and so by which men, which orders of the ship in use can be said. */
    private static final class Choir {
        private static final int BAGS = 3003;
        /** At 5 * w + j the ways to choose j + 1 of w + j + 1: they number the bags of words. */
        private static final int[] CHOOSE = {
            1, 1, 1, 1, 1,
            2, 3, 4, 5, 6,
            3, 6, 10, 15, 21,
            4, 10, 20, 35, 56,
            5, 15, 35, 70, 126,
            6, 21, 56, 126, 252,
            7, 28, 84, 210, 462,
            8, 36, 120, 330, 792,
            9, 45, 165, 495, 1287,
            10, 55, 220, 715, 2002
        };

        private Ship ship = null;
        private final Rows rows = new Rows();
        /** By the number of a bag of up to 5 words, the orders that some row of just these means. */
        private final int[] exact = new int[BAGS];
        /** By the boy's word and a set of men, the orders that some of them can say. */
        private final int[] reach = new int[(MOST_WORDS + 1) * SETS_OF_MEN];
        private int filled = 0;
        private final int[] bag = new int[MOST_WORDS];

        void learn(Ship of) {
            ship = of;
            filled = 0;
            Arrays.fill(exact, 0);
            for (int o = 0; o < of.orders; o++) {
                rows.begin(of, o);
                for (int i = 0; i < FAR && rows.advance(); i++) {
                    Arrays.fill(bag, 0);
                    for (int j = 0; j < rows.length; j++) {
                        put(rows.wordAt(j));
                    }
                    exact[bagNumber(rows.length)] |= 1 << o;
                }
            }
        }

        /** Orders that can be said by a set of men, and by the boy if his word is not NONE. */
        int orders(int boy, int heard) {
            if (boy < NONE || boy >= MOST_WORDS) {
                return 0;
            }
            if (bit(filled, boy + 1) == 0) {
                fill(boy);
                filled |= 1 << boy + 1;
            }
            return reach[(boy + 1) * SETS_OF_MEN + (heard & SETS_OF_MEN - 1)];
        }

        /** What a set can say, it can say with one man more: so each set begins with those of one less. */
        private void fill(int boy) {
            int base = (boy + 1) * SETS_OF_MEN;
            int men = ship == null ? 0 : ship.men;
            int sets = Math.min(1 << men, SETS_OF_MEN);
            for (int set = 0; set < sets; set++) {
                int said = 0;
                for (int m = 0; m < men; m++) {
                    if (bit(set, m) == 1) {
                        said |= reach[base + set - (1 << m)];
                    }
                }
                reach[base + set] = said | ordersOfAll(boy, set);
            }
        }

        /** Orders said by all of a set together, with the boy or without him. */
        private int ordersOfAll(int boy, int set) {
            Arrays.fill(bag, 0);
            for (int m = 0; ship != null && m < ship.men; m++) {
                if (bit(set, m) == 1) {
                    put(ship.wordOf(m));
                }
            }
            int n = Integer.bitCount(set);
            int said = n > LONGEST_ROW ? 0 : exact[bagNumber(n)];
            if (boy >= 0 && n < LONGEST_ROW) {
                put(boy);
                said |= exact[bagNumber(n + 1)];
            }
            return said;
        }

        private void put(int word) {
            if (word >= 0 && word < bag.length) {
                bag[word]++;
            }
        }

        /** No two bags of up to 5 words have the same number; that of none is 0. */
        private int bagNumber(int n) {
            int number = 0;
            int j = LONGEST_ROW - n;
            for (int w = 0; w < MOST_WORDS; w++) {
                for (int i = 0; i < bag[w] && j >= 0 && j < LONGEST_ROW; i++) {
                    number += CHOOSE[w * LONGEST_ROW + j];
                    j++;
                }
            }
            return number < BAGS ? number : 0;
        }
    }

    /** Answers what is asked of a ship and its hands, without a change of these. */
    private static final class Asker {
        private final Choir choir = new Choir();
        private final Rows rows = new Rows();

        final int[] best = new int[LONGEST_ROW];
        int bestLength = 0;
        private final int[] tried = new int[LONGEST_ROW];

        int lackCount = 0;
        private int lackFirst = NOTHING;
        private int lackSecond = NOTHING;
        private final int[] spare = new int[MOST_WORDS];

        int nearOrder = NOTHING;
        int nearChanges = NOTHING;
        private final int[] changes = new int[(LONGEST_ROW + 1) * (LONGEST_ORDER + 1)];

        int sets = 0;
        int inAll = 0;
        int inNone = 0;
        private final int[] saidBy = new int[MOST_ORDERS];

        int unsaid = 0;
        int unsaidNeed = 0;
        private int x = 0;
        private final Hands sailing = new Hands();

        /** Must come whenever another ship is in use. */
        void learn(Ship ship) {
            choir.learn(ship);
        }

        int canSay(Ship ship, Hands hands) {
            return choir.orders(hands.boy, hands.heard(ship));
        }

        void findShortest(Ship ship, Hands hands, int order) {
            bestLength = 0;
            if (bit(canSay(ship, hands), order) == 0) {
                return;
            }
            int heard = hands.heard(ship);
            rows.begin(ship, order);
            for (int i = 0; i < FAR && rows.advance(); i++) {
                boolean longer = bestLength > 0 && rows.length > bestLength;
                if (!longer && seat(ship, heard, hands.boy) && isBetter()) {
                    bestLength = rows.length;
                    System.arraycopy(tried, 0, best, 0, LONGEST_ROW);
                }
            }
        }

        /** Tries the least free men for the words of a row: no other men are ahead of these. */
        private boolean seat(Ship ship, int heard, int boy) {
            int free = heard;
            for (int i = 0; i < rows.length && i < tried.length; i++) {
                int m = leastWith(ship, free, boy, rows.wordAt(i));
                if (m < 0) {
                    return false;
                }
                tried[i] = m;
                free &= ~(1 << m);
            }
            return true;
        }

        private static int leastWith(Ship ship, int free, int boy, int word) {
            for (int m = 0; m < ship.men; m++) {
                if (bit(free, m) == 1 && ship.wordOf(m) == word) {
                    return m;
                }
            }
            return bit(free, BOY) == 1 && boy == word ? BOY : NONE;
        }

        private boolean isBetter() {
            if (bestLength == 0 || rows.length != bestLength) {
                return bestLength == 0 || rows.length < bestLength;
            }
            for (int i = 0; i < bestLength && i < tried.length; i++) {
                if (tried[i] != best[i]) {
                    return tried[i] < best[i];
                }
            }
            return false;
        }

        int fewestMen(Ship ship, Hands hands, int orders) {
            int fit = hands.fit(ship);
            int found = NOTHING;
            for (int set = 0; set < SETS_OF_MEN; set++) {
                boolean fewer = found < 0 || Integer.bitCount(set) < Integer.bitCount(found);
                boolean can = fewer && (set & ~fit) == 0;
                if (can && (orders & ~choir.orders(hands.boy, set)) == 0) {
                    found = set;
                }
            }
            return found;
        }

        /** The least man must be in it, so that of no living men there is no first watch. */
        int firstWatch(Ship ship, Hands hands, int need) {
            int orders = 0;
            for (int o = 0; o < ship.orders && o < MOST_ORDERS; o++) {
                orders |= ship.need[o] >= need ? 1 << o : 0;
            }
            int all = hands.living(ship);
            int least = all & -all;
            for (int set = 0; set < SETS_OF_MEN; set++) {
                if ((set & ~all) == 0 && (set & least) != 0) {
                    int both = choir.orders(NONE, set) & choir.orders(NONE, all & ~set);
                    if ((orders & ~both) == 0) {
                        return set;
                    }
                }
            }
            return NOTHING;
        }

        int needWith(Ship ship, Hands hands, int word) {
            return needOf(ship, choir.orders(word, hands.heard(ship)));
        }

        private static int needOf(Ship ship, int orders) {
            int sum = 0;
            for (int o = 0; o < ship.orders && o < MOST_ORDERS; o++) {
                sum += bit(orders, o) * ship.need[o];
            }
            return sum;
        }

        int bestLesson(Ship ship, Hands hands) {
            int found = 0;
            int greatest = NONE;
            for (int w = 0; w < ship.words; w++) {
                int sum = needWith(ship, hands, w);
                if (sum > greatest) {
                    greatest = sum;
                    found = w;
                }
            }
            return found;
        }

        void findLacks(Ship ship, Hands hands, int order) {
            lackCount = 3;
            int heard = hands.heard(ship);
            rows.begin(ship, order);
            for (int i = 0; i < FAR && rows.advance(); i++) {
                Arrays.fill(spare, 0);
                for (int m = 0; m < ship.men; m++) {
                    addSpare(ship.wordOf(m), bit(heard, m));
                }
                addSpare(hands.boy, bit(heard, BOY));
                tryLack();
            }
        }

        private void addSpare(int word, int n) {
            if (word >= 0 && word < spare.length) {
                spare[word] += n;
            }
        }

        /** Takes what the row lacks beside the spare words, if that is less than what was found. */
        private void tryLack() {
            int n = 0;
            int first = NOTHING;
            int second = NOTHING;
            for (int i = 0; i < rows.length; i++) {
                int w = rows.wordAt(i);
                addSpare(w, -1);
                if (w >= 0 && w < spare.length && spare[w] < 0) {
                    n++;
                    second = n == 1 ? NOTHING : Math.max(first, w);
                    first = n == 1 ? w : Math.min(first, w);
                }
            }
            boolean same = n == lackCount && n <= 2;
            boolean ahead = first < lackFirst || first == lackFirst && second < lackSecond;
            if (n < lackCount || same && ahead) {
                lackCount = n;
                lackFirst = first;
                lackSecond = second;
            }
        }

        int lackWord(int i) {
            return i == 0 ? lackFirst : lackSecond;
        }

        void findNearest(Ship ship, int[] row, int n) {
            nearOrder = NOTHING;
            nearChanges = NOTHING;
            for (int o = 0; o < ship.orders; o++) {
                int far = changesTo(ship, o, row, n);
                if (nearOrder < 0 || far < nearChanges) {
                    nearOrder = o;
                    nearChanges = far;
                }
            }
        }

        /** By beginnings of both rows, each from those that are shorter by one. */
        private int changesTo(Ship ship, int order, int[] row, int n) {
            int wide = LONGEST_ORDER + 1;
            int size = ship.hasOrder(order) ? Math.min(ship.length[order], LONGEST_ORDER) : 0;
            int high = Math.min(Math.min(n, row.length), LONGEST_ROW);
            for (int i = 0; i <= high; i++) {
                for (int j = 0; j <= size; j++) {
                    int at = i * wide + j;
                    if (i == 0 || j == 0) {
                        changes[at] = i + j;
                    } else {
                        int put = row[i - 1] == ship.rowWord(order, j - 1) ? 0 : 1;
                        int less = Math.min(changes[at - wide], changes[at - 1]) + 1;
                        changes[at] = Math.min(less, changes[at - wide - 1] + put);
                    }
                }
            }
            return high < 0 ? size : changes[high * wide + size];
        }

        /** Goes through all sets of men by whom all that was done is so. */
        void gather(World world) {
            Ship ship = world.ship;
            int all = world.hands.living(ship);
            int inSome = 0;
            sets = 0;
            inAll = all;
            Arrays.fill(saidBy, 0);
            for (int set = 0; set < SETS_OF_MEN; set++) {
                if ((set & ~all) == 0) {
                    int orders = choir.orders(NONE, set);
                    if (world.agrees(orders)) {
                        sets++;
                        inAll &= set;
                        inSome |= set;
                        noteSaid(orders);
                    }
                }
            }
            inNone = sets == 0 ? 0 : all & ~inSome;
            inAll = sets == 0 ? 0 : inAll;
        }

        private void noteSaid(int orders) {
            for (int o = 0; o < saidBy.length; o++) {
                saidBy[o] += bit(orders, o);
            }
        }

        int greaterPart(int order) {
            int by = order >= 0 && order < saidBy.length ? saidBy[order] : 0;
            return Math.max(by, sets - by);
        }

        int bestQuestion(int orders) {
            int found = 0;
            for (int o = 1; o < orders; o++) {
                if (greaterPart(o) < greaterPart(found)) {
                    found = o;
                }
            }
            return found;
        }

        void sail(World world, int times, int hours, int sleep) {
            unsaid = 0;
            unsaidNeed = 0;
            x = world.x;
            for (int i = 0; i < times; i++) {
                sailing.copy(world.hands);
                for (int h = 0; h < hours; h++) {
                    sailHour(world.ship, sleep);
                }
            }
        }

        private void sailHour(Ship ship, int sleep) {
            sailing.wind = draw() % (LAST_WIND + 1);
            for (int m = 0; m < ship.men; m++) {
                if (bit(sailing.dead, m) == 0) {
                    sailing.rouse(m, draw() % 100 >= sleep);
                }
            }
            int said = choir.orders(sailing.boy, sailing.heard(ship));
            int mute = (1 << ship.orders) - 1 & ~said;
            unsaid += Integer.bitCount(mute);
            unsaidNeed += needOf(ship, mute);
            sailing.pass();
        }

        private int draw() {
            x = (int) (x * 1103515245L + 12345L & 2147483647L);
            return x / 65536;
        }
    }
}
