import java.util.ArrayList;
import java.util.Arrays;
import java.util.HashMap;
import java.util.List;
import java.util.Map;

/**
 * The document once more, by trying all: every row of men is said, every set is looked at. It is slow,
 * and it shares no way of doing with the class.
 */
final class Model {
    /** All that an image keeps, made anew for every change. */
    static final class State implements Cloneable {
        ModelText.Told told = null;
        boolean[] awake = new boolean[9];
        boolean[] dead = new boolean[9];
        int[] sick = new int[8];
        int[] tired = new int[8];
        int hour = 0;
        int wind = 0;
        int boy = -1;
        List<int[]> done = new ArrayList<>();
        long x = 0;

        State copy() {
            State s = new State();
            s.told = told;
            s.awake = awake.clone();
            s.dead = dead.clone();
            s.sick = sick.clone();
            s.tired = tired.clone();
            s.hour = hour;
            s.wind = wind;
            s.boy = boy;
            s.done = new ArrayList<>(done);
            s.x = x;
            return s;
        }

        int men() {
            return told == null ? 0 : told.men.size();
        }

        int orders() {
            return told == null ? 0 : told.orders.size();
        }

        int words() {
            return told == null ? 0 : told.words;
        }

        boolean fit(int m) {
            return !dead[m] && sick[m] == 0 && (wind == 0 || told.men.get(m)[1] != wind);
        }

        boolean heard(int m) {
            return m == 8 ? boy >= 0 : m < men() && fit(m) && awake[m];
        }

        int wordOf(int m) {
            return m == 8 ? boy : told.men.get(m)[0];
        }

        void pass() {
            hour++;
            for (int m = 0; m < 8; m++) {
                sick[m] = Math.max(0, sick[m] - 1);
                tired[m] = awake[m] ? tired[m] + 1 : 0;
            }
        }
    }

    private String tape = "";
    private final List<List<ModelText.Clause>> rules = new ArrayList<>();
    State now = new State();
    private final State[] images = new State[4];
    private final List<State> past = new ArrayList<>();
    /** By ship and boy, which orders each set of men (bit 8: the boy) says with just all of it. */
    private final Map<Object, int[]> known = new HashMap<>();
    /** By ship, the order of every row of up to 5 words (its digits behind a 1). */
    private final Map<ModelText.Told, int[]> saidByWords = new HashMap<>();

    // Texts.

    int feed(int... numbers) {
        if (tape.length() > 380) {
            return -1;
        }
        StringBuilder all = new StringBuilder(tape);
        for (int n : numbers) {
            for (int i = 3; i >= 0; i--) {
                all.append((char) (n >>> 8 * i & 255));
            }
        }
        tape = all.toString();
        return tape.length();
    }

    int end(int n) {
        if (n < 0 || n > tape.length()) {
            return -1;
        }
        tape = tape.substring(0, n);
        return n;
    }

    int ship() {
        String text = tape;
        tape = "";
        try {
            ModelText.Told told = ModelText.ship(text);
            State s = new State();
            s.told = told;
            s.x = now.x;
            Arrays.fill(s.awake, 0, told.men.size(), true);
            now = s;
            past.clear();
            return told.men.size();
        } catch (ModelText.Fault fault) {
            return -2 - fault.value;
        }
    }

    int rule() {
        if (rules.size() == 6) {
            return -1;
        }
        String text = tape;
        tape = "";
        try {
            rules.add(ModelText.rule(text));
            return rules.size() - 1;
        } catch (ModelText.Fault fault) {
            return -2 - fault.value;
        }
    }

    // What there is.

    private boolean isMan(int m) {
        return m >= 0 && m < now.men();
    }

    private boolean isOrder(int o) {
        return o >= 0 && o < now.orders();
    }

    private boolean isWord(int w) {
        return w >= 0 && w < now.words();
    }

    private static int one(boolean is) {
        return is ? 1 : 0;
    }

    int man(int m, int what) {
        if (!isMan(m)) {
            return -1;
        }
        return switch (what) {
            case 0, 1 -> now.told.men.get(m)[what];
            case 2 -> one(now.awake[m]);
            case 3 -> now.sick[m];
            case 4 -> one(now.dead[m]);
            case 5 -> now.tired[m];
            case 6 -> one(now.heard(m));
            default -> -1;
        };
    }

    int order(int o, int what) {
        if (!isOrder(o) || what < 0 || what > 5) {
            return -1;
        }
        int[] order = now.told.orders.get(o);
        if (what == 0) {
            return order[0];
        }
        if (what == 1) {
            return order.length - 1;
        }
        return what - 1 < order.length ? order[what - 1] : -2;
    }

    int means(int a, int b) {
        return isWord(a) && isWord(b) ? now.told.means.getOrDefault(a * 10 + b, -2) : -1;
    }

    private static int[] digits(int number, int n) {
        if (number < 0 || n < 1 || n > 5 || number >= Math.round(Math.pow(10, n))) {
            return null;
        }
        String all = String.format("%0" + n + "d", number);
        return all.chars().map(c -> c - '0').toArray();
    }

    private static List<Integer> meaningOf(ModelText.Told told, List<Integer> row) {
        for (int i = 0; i + 1 < row.size(); i++) {
            Integer third = told.means.get(row.get(i) * 10 + row.get(i + 1));
            if (third != null) {
                List<Integer> less = new ArrayList<>(row.subList(0, i));
                less.add(third);
                less.addAll(row.subList(i + 2, row.size()));
                return meaningOf(told, less);
            }
        }
        return row;
    }

    private static List<Integer> rowOf(ModelText.Told told, int o) {
        List<Integer> row = new ArrayList<>();
        int[] order = told.orders.get(o);
        for (int i = 1; i < order.length; i++) {
            row.add(order[i]);
        }
        return row;
    }

    private int orderOf(ModelText.Told told, List<Integer> words) {
        int number = 1;
        for (int w : words) {
            number = number * 10 + w;
        }
        return saidByWords.computeIfAbsent(told, Model::ordersOfAllRows)[number];
    }

    private static int[] ordersOfAllRows(ModelText.Told told) {
        int[] orders = new int[200000];
        Arrays.fill(orders, -9);
        for (int n = 1; n <= 5; n++) {
            int from = (int) Math.round(Math.pow(10, n));
            for (int number = from; number < 2 * from; number++) {
                List<Integer> words = new ArrayList<>();
                for (int place = from / 10; place > 0; place /= 10) {
                    words.add(number / place % 10);
                }
                if (words.stream().allMatch(w -> w < told.words)) {
                    orders[number] = findOrder(told, words);
                }
            }
        }
        return orders;
    }

    private static int findOrder(ModelText.Told told, List<Integer> words) {
        List<Integer> left = meaningOf(told, words);
        for (int o = 0; o < told.orders.size(); o++) {
            if (rowOf(told, o).equals(left)) {
                return o;
            }
        }
        return -2;
    }

    int meaning(int words, int n) {
        int[] row = digits(words, n);
        if (row == null) {
            return -1;
        }
        List<Integer> all = new ArrayList<>();
        for (int w : row) {
            if (!isWord(w)) {
                return -1;
            }
            all.add(w);
        }
        StringBuilder answer = new StringBuilder("1");
        meaningOf(now.told, all).forEach(answer::append);
        return Integer.parseInt(answer.toString());
    }

    private int[] menOf(int men, int n) {
        int[] row = digits(men, n);
        if (row == null || Arrays.stream(row).distinct().count() != n) {
            return null;
        }
        for (int m : row) {
            if (!(isMan(m) || m == 8 && now.boy >= 0)) {
                return null;
            }
        }
        return row;
    }

    // Acts.

    private void act() {
        past.add(now.copy());
        if (past.size() > 20) {
            past.remove(0);
        }
    }

    int say(int men, int n) {
        int[] row = menOf(men, n);
        if (row == null) {
            return -1;
        }
        List<Integer> words = new ArrayList<>();
        for (int m : row) {
            if (!now.heard(m)) {
                return -1;
            }
            words.add(now.wordOf(m));
        }
        act();
        return orderOf(now.told, words);
    }

    int hour() {
        if (now.told == null || now.hour == 999) {
            return -1;
        }
        act();
        now.pass();
        return now.hour;
    }

    boolean wake(int m, boolean is) {
        if (!isMan(m) || now.dead[m] || now.awake[m] == is) {
            return false;
        }
        act();
        now.awake[m] = is;
        return true;
    }

    int sicken(int m, int n) {
        if (!isMan(m) || now.dead[m] || n < 0 || n > 9) {
            return -1;
        }
        act();
        int was = now.sick[m];
        now.sick[m] = n;
        return was;
    }

    int die(int m) {
        if (!isMan(m) || now.dead[m]) {
            return -1;
        }
        act();
        now.dead[m] = true;
        now.awake[m] = false;
        return Integer.bitCount(living());
    }

    private int living() {
        int set = 0;
        for (int m = 0; m < now.men(); m++) {
            set |= now.dead[m] ? 0 : 1 << m;
        }
        return set;
    }

    int teach(int word) {
        if (!isWord(word) || now.boy == word) {
            return -2;
        }
        act();
        int was = now.boy;
        now.boy = word;
        return was;
    }

    int turn(int wind) {
        if (now.told == null || wind < 0 || wind > 2 || wind == now.wind) {
            return -1;
        }
        act();
        int was = now.wind;
        now.wind = wind;
        return was;
    }

    int undo() {
        if (past.isEmpty()) {
            return -1;
        }
        State was = past.remove(past.size() - 1);
        was.done = now.done;
        was.x = now.x;
        now = was;
        return past.size();
    }

    int run(int r, int n) {
        if (now.told == null || r < 0 || r >= rules.size() || n < 1 || n > 60 || now.hour + n > 999) {
            return -1;
        }
        for (int i = 0; i < n; i++) {
            for (int m = 0; m < now.men(); m++) {
                if (!now.dead[m]) {
                    now.awake[m] = sumOf(rules.get(r), letters(m)) > 0;
                }
            }
            now.pass();
        }
        past.clear();
        return now.hour;
    }

    private static long sumOf(List<ModelText.Clause> rule, Map<String, Long> letters) {
        for (ModelText.Clause clause : rule) {
            if (clause.test() == null || clause.test().of(letters) != 0) {
                return clause.sum().of(letters);
            }
        }
        return 0;
    }

    private Map<String, Long> letters(int man) {
        Map<String, Long> l = new HashMap<>();
        l.put("man", (long) man);
        l.put("word", (long) now.wordOf(man));
        l.put("berth", (long) now.told.men.get(man)[1]);
        l.put("hour", (long) now.hour);
        l.put("wind", (long) now.wind);
        l.put("sick", (long) now.sick[man]);
        l.put("tired", (long) now.tired[man]);
        long awake = 0;
        long same = 0;
        long crew = 0;
        long need = 0;
        for (int m = 0; m < now.men(); m++) {
            awake += m != man && now.awake[m] ? 1 : 0;
            same += m != man && !now.dead[m] && now.wordOf(m) == now.wordOf(man) ? 1 : 0;
            crew += now.dead[m] ? 0 : 1;
        }
        for (int o = 0; o < now.orders(); o++) {
            if (rowOf(now.told, o).contains(now.wordOf(man))) {
                need = Math.max(need, now.told.orders.get(o)[0]);
            }
        }
        l.put("awake", awake);
        l.put("same", same);
        l.put("crew", crew);
        l.put("need", need);
        return l;
    }

    // What is asked.

    /** Orders that some row of men of a set says, the boy being in it by bit 8 with a word. */
    private int ordersBy(int set, int boy) {
        int[] just = known.computeIfAbsent(List.of(now.told, boy), k -> allRows(boy));
        int said = 0;
        for (int part = set; part > 0; part = part - 1 & set) {
            said |= just[part];
        }
        return said;
    }

    private int[] allRows(int boy) {
        int[] just = new int[512];
        sayOn(just, 0, new ArrayList<>(), boy);
        return just;
    }

    private void sayOn(int[] just, int set, List<Integer> words, int boy) {
        if (!words.isEmpty()) {
            int order = orderOf(now.told, words);
            just[set] |= order >= 0 ? 1 << order : 0;
        }
        if (words.size() == 5) {
            return;
        }
        for (int m = 0; m <= 8; m++) {
            boolean there = m < now.men() || m == 8 && boy >= 0;
            if (there && (set >> m & 1) == 0) {
                List<Integer> more = new ArrayList<>(words);
                more.add(m == 8 ? boy : now.wordOf(m));
                sayOn(just, set | 1 << m, more, boy);
            }
        }
    }

    private int heardSet() {
        int set = 0;
        for (int m = 0; m <= 8; m++) {
            set |= now.heard(m) ? 1 << m : 0;
        }
        return set;
    }

    int sayable() {
        return now.told == null ? -1 : ordersBy(heardSet(), now.boy);
    }

    int shortest(int o, int what) {
        if (!isOrder(o) || what < 0 || what > 5) {
            return -1;
        }
        for (int n = 1; n <= 5; n++) {
            List<Integer> men = firstRow(o, n, new ArrayList<>());
            if (men != null) {
                return what == 0 ? n : what <= n ? men.get(what - 1) : -2;
            }
        }
        return -2;
    }

    private List<Integer> firstRow(int o, int n, List<Integer> men) {
        if (men.size() == n) {
            List<Integer> words = men.stream().map(now::wordOf).toList();
            return orderOf(now.told, words) == o ? men : null;
        }
        for (int m = 0; m <= 8; m++) {
            if (now.heard(m) && !men.contains(m)) {
                List<Integer> more = new ArrayList<>(men);
                more.add(m);
                List<Integer> found = firstRow(o, n, more);
                if (found != null) {
                    return found;
                }
            }
        }
        return null;
    }

    int fewest(int orders, int what) {
        if (now.told == null || orders < 0 || orders >> now.orders() != 0 || what < 0 || what > 1) {
            return -1;
        }
        for (int n = 0; n <= 8; n++) {
            for (int set = 0; set < 256; set++) {
                if (Integer.bitCount(set) == n && allFit(set)) {
                    int by = ordersBy(now.boy >= 0 ? set | 256 : set, now.boy);
                    if ((by & orders) == orders) {
                        return what == 0 ? n : set;
                    }
                }
            }
        }
        return -2;
    }

    private boolean allFit(int set) {
        for (int m = 0; m < 8; m++) {
            if ((set >> m & 1) == 1 && !(m < now.men() && now.fit(m))) {
                return false;
            }
        }
        return true;
    }

    int watches(int need, int what) {
        if (now.told == null || need < 0 || need > 99 || what < 0 || what > 1) {
            return -1;
        }
        int orders = 0;
        for (int o = 0; o < now.orders(); o++) {
            orders |= now.told.orders.get(o)[0] >= need ? 1 << o : 0;
        }
        int all = living();
        for (int set = 1; set <= all; set++) {
            boolean parts = (set & all) == set && (set & Integer.lowestOneBit(all)) != 0;
            if (parts && (orders & ordersBy(set, -1) & ordersBy(all ^ set, -1)) == orders) {
                return what == 0 ? set : all ^ set;
            }
        }
        return -2;
    }

    private int needOf(int orders) {
        int sum = 0;
        for (int o = 0; o < now.orders(); o++) {
            sum += (orders >> o & 1) == 1 ? now.told.orders.get(o)[0] : 0;
        }
        return sum;
    }

    int boy(int what) {
        if (now.told == null || what < 0 || what > 1) {
            return -1;
        }
        int best = -1;
        int bestNeed = -1;
        for (int w = 0; w < now.words(); w++) {
            int sum = needOf(ordersBy(heardSet() | 256, w));
            if (sum > bestNeed) {
                best = w;
                bestNeed = sum;
            }
        }
        return what == 0 ? best : bestNeed;
    }

    int lacks(int o, int what) {
        if (!isOrder(o) || what < 0 || what > 2) {
            return -1;
        }
        saidByWords.computeIfAbsent(now.told, Model::ordersOfAllRows);
        int[] have = new int[10];
        for (int m = 0; m <= 8; m++) {
            if (now.heard(m)) {
                have[now.wordOf(m)]++;
            }
        }
        List<int[]> ways = new ArrayList<>();
        ways.add(new int[0]);
        for (int a = 0; a < now.words(); a++) {
            ways.add(new int[] {a});
        }
        for (int a = 0; a < now.words(); a++) {
            for (int b = a; b < now.words(); b++) {
                ways.add(new int[] {a, b});
            }
        }
        for (int[] way : ways) {
            int[] all = have.clone();
            for (int w : way) {
                all[w]++;
            }
            if (sayWords(o, all, 1, 0)) {
                return what == 0 ? way.length : what <= way.length ? way[what - 1] : -2;
            }
        }
        return -2;
    }

    /** Whether a row that begins with some words (digits behind a 1) says an order, with these words more. */
    private boolean sayWords(int o, int[] have, int row, int n) {
        if (n > 0 && saidByWords.get(now.told)[row] == o) {
            return true;
        }
        for (int w = 0; w < 10 && n < 5; w++) {
            if (have[w] > 0) {
                have[w]--;
                boolean can = sayWords(o, have, row * 10 + w, n + 1);
                have[w]++;
                if (can) {
                    return true;
                }
            }
        }
        return false;
    }

    int nearest(int men, int n, int what) {
        int[] row = menOf(men, n);
        if (row == null || what < 0 || what > 1) {
            return -1;
        }
        List<Integer> words = new ArrayList<>();
        for (int m : row) {
            if (now.heard(m)) {
                words.add(now.wordOf(m));
            }
        }
        List<Integer> left = meaningOf(now.told, words);
        int best = -2;
        int fewest = -2;
        for (int o = 0; o < now.orders(); o++) {
            int far = changes(left, rowOf(now.told, o));
            if (best == -2 || far < fewest) {
                best = o;
                fewest = far;
            }
        }
        return what == 0 ? best : fewest;
    }

    private static int changes(List<Integer> a, List<Integer> b) {
        if (a.isEmpty() || b.isEmpty()) {
            return a.size() + b.size();
        }
        List<Integer> restA = a.subList(1, a.size());
        List<Integer> restB = b.subList(1, b.size());
        if (a.get(0).equals(b.get(0))) {
            return changes(restA, restB);
        }
        return 1 + Math.min(changes(restA, restB), Math.min(changes(restA, b), changes(a, restB)));
    }

    int done(int o, boolean said) {
        if (o == -1) {
            now.done.clear();
            return 0;
        }
        if (!isOrder(o) || now.done.size() == 10) {
            return -2;
        }
        now.done.add(new int[] {o, one(said)});
        return now.done.size();
    }

    private List<Integer> setsByDone() {
        List<Integer> sets = new ArrayList<>();
        int all = living();
        for (int set = 0; set <= all; set++) {
            if ((set & all) == set) {
                int by = ordersBy(set, -1);
                boolean so = true;
                for (int[] d : now.done) {
                    so &= (by >> d[0] & 1) == d[1];
                }
                if (so) {
                    sets.add(set);
                }
            }
        }
        return sets;
    }

    int awake(int what) {
        if (now.told == null || what < 0 || what > 2) {
            return -1;
        }
        List<Integer> sets = setsByDone();
        if (what == 0 || sets.isEmpty()) {
            return sets.size();
        }
        int in = living();
        int none = living();
        for (int set : sets) {
            in &= set;
            none &= ~set;
        }
        return what == 1 ? in : none;
    }

    int ask(int what) {
        if (now.told == null || what < 0 || what > 1) {
            return -1;
        }
        List<Integer> sets = setsByDone();
        int best = -2;
        int least = -2;
        for (int o = 0; o < now.orders() && !sets.isEmpty(); o++) {
            int order = o;
            int can = (int) sets.stream().filter(s -> (ordersBy(s, -1) >> order & 1) == 1).count();
            int part = Math.max(can, sets.size() - can);
            if (best == -2 || part < least) {
                best = o;
                least = part;
            }
        }
        return what == 0 ? best : least;
    }

    int seed(int x) {
        if (x < 0) {
            return -1;
        }
        int was = (int) now.x;
        now.x = x;
        return was;
    }

    int voyages(int m, int n, int p, int what) {
        if (now.told == null || m < 1 || m > 10 || n < 1 || n > 20 || p < 0 || p > 100 || what < 0 || what > 1) {
            return -1;
        }
        State kept = now;
        int count = 0;
        int need = 0;
        long x = now.x;
        for (int i = 0; i < m; i++) {
            now = kept.copy();
            for (int h = 0; h < n; h++) {
                x = (x * 1103515245 + 12345) % 2147483648L;
                now.wind = (int) (x / 65536 % 3);
                for (int man = 0; man < now.men(); man++) {
                    if (!now.dead[man]) {
                        x = (x * 1103515245 + 12345) % 2147483648L;
                        now.awake[man] = x / 65536 % 100 >= p;
                    }
                }
                int mute = (1 << now.orders()) - 1 & ~sayable();
                count += Integer.bitCount(mute);
                need += needOf(mute);
                now.pass();
            }
        }
        now = kept;
        return what == 0 ? count : need;
    }

    int count(int what) {
        int awake = 0;
        int dead = 0;
        for (int m = 0; m < 8; m++) {
            awake |= now.awake[m] ? 1 << m : 0;
            dead |= now.dead[m] ? 1 << m : 0;
        }
        return switch (what) {
            case 0 -> now.words();
            case 1 -> now.men();
            case 2 -> now.orders();
            case 3 -> now.told == null ? 0 : now.told.means.size();
            case 4 -> rules.size();
            case 5 -> now.hour;
            case 6 -> now.wind;
            case 7 -> awake;
            case 8 -> heardSet();
            case 9 -> dead;
            case 10 -> now.boy;
            case 11 -> now.done.size();
            case 12 -> past.size();
            case 13 -> (int) now.x;
            case 14 -> tape.length();
            default -> -1;
        };
    }

    int image(int k) {
        if (k < 0 || k > 3) {
            return -1;
        }
        images[k] = now.copy();
        return now.hour;
    }

    int back(int k) {
        if (k < 0 || k > 3 || images[k] == null) {
            return -1;
        }
        now = images[k].copy();
        past.clear();
        return now.hour;
    }
}
