import java.util.ArrayDeque;
import java.util.ArrayList;
import java.util.Arrays;
import java.util.Deque;
import java.util.HashMap;
import java.util.List;
import java.util.Map;
import java.util.NoSuchElementException;
import java.util.Set;
import java.util.function.BiPredicate;

/**
 * The document told a second time, in the slowest and plainest way: by trying all subsets, all rings, all
 * partitions. ModelTest holds DebtTable against it. It shares no code with the class.
 */
final class Model {
    static final Set<String> WORDS = Set.of("house", "debt", "grows", "pay", "borrows", "sell", "forgive", "clear",
            "year", "or", "and", "not", "free", "broke", "full", "owes", "ringed", "coins", "debts", "chairs",
            "number");

    static final class House {
        String name;
        int coins;
        int income;
        int chairs;
    }

    static final class Debt {
        int from;
        int to;
        int left;
        int age;
    }

    static final class State {
        List<House> houses = new ArrayList<>();
        List<Debt> debts = new ArrayList<>();
        int growCoins = 1;
        int growYears = 5;
        int year = 0;
        int paid = 0;

        State copy() {
            State s = new State();
            for (House h : houses) {
                House c = new House();
                c.name = h.name;
                c.coins = h.coins;
                c.income = h.income;
                c.chairs = h.chairs;
                s.houses.add(c);
            }
            for (Debt d : debts) {
                Debt c = new Debt();
                c.from = d.from;
                c.to = d.to;
                c.left = d.left;
                c.age = d.age;
                s.debts.add(c);
            }
            s.growCoins = growCoins;
            s.growYears = growYears;
            s.year = year;
            s.paid = paid;
            return s;
        }

        boolean isHouse(int h) {
            return 0 <= h && h < houses.size();
        }

        boolean isDebt(int d) {
            return 0 <= d && d < debts.size();
        }

        /** The open debts of a house, in the order in which they sit. */
        List<Integer> table(int h) {
            List<Integer> list = new ArrayList<>();
            for (int d = 0; d < debts.size(); d++) {
                if (debts.get(d).from == h && debts.get(d).left > 0) {
                    list.add(d);
                }
            }
            list.sort((d, e) -> debts.get(d).age != debts.get(e).age ? debts.get(e).age - debts.get(d).age : d - e);
            return list;
        }

        int owed(int from, int to) {
            int sum = 0;
            for (Debt d : debts) {
                if ((from < 0 || d.from == from) && (to < 0 || d.to == to)) {
                    sum += d.left;
                }
            }
            return sum;
        }

        boolean broke(int h) {
            return owed(h, -1) > houses.get(h).coins;
        }

        int trait(int d, int what) {
            Debt debt = debts.get(d);
            return switch (what) {
                case 0 -> debt.from;
                case 1 -> debt.to;
                case 2 -> debt.left;
                case 3 -> debt.age;
                case 4 -> table(debt.from).indexOf(d);
                default -> -1;
            };
        }

        int pay(int d, int n) {
            Debt debt = debts.get(d);
            if (debt.left == 0) {
                return 1;
            }
            if (n > debt.left) {
                return 2;
            }
            if (n > houses.get(debt.from).coins) {
                return 3;
            }
            debt.left -= n;
            houses.get(debt.from).coins -= n;
            houses.get(debt.to).coins += n;
            paid += n;
            return 0;
        }

        int borrow(int h, int g, int n) {
            if (debts.size() == 12) {
                return 1;
            }
            if (houses.get(g).coins < n) {
                return 2;
            }
            houses.get(g).coins -= n;
            houses.get(h).coins += n;
            Debt d = new Debt();
            d.from = h;
            d.to = g;
            d.left = n;
            debts.add(d);
            return 0;
        }

        int sell(int d, int h) {
            Debt debt = debts.get(d);
            if (debt.left == 0) {
                return 1;
            }
            if (debt.to == h) {
                return 2;
            }
            if (debt.from == h) {
                return 3;
            }
            if (houses.get(h).coins < debt.left) {
                return 4;
            }
            houses.get(h).coins -= debt.left;
            houses.get(debt.to).coins += debt.left;
            debt.to = h;
            return 0;
        }

        int forgive(int d) {
            if (debts.get(d).left == 0) {
                return 1;
            }
            debts.get(d).left = 0;
            return 0;
        }

        int clear(int d, int e) {
            Debt a = debts.get(d);
            Debt b = debts.get(e);
            if (a.left == 0 || b.left == 0) {
                return 1;
            }
            if (d == e || a.from != b.to || a.to != b.from) {
                return 2;
            }
            int lesser = Math.min(a.left, b.left);
            a.left -= lesser;
            b.left -= lesser;
            return 0;
        }

        void passYear() {
            for (House h : houses) {
                for (int i = 0; i < h.income; i++) {
                    if (h.coins < 9999) {
                        h.coins++;
                    }
                }
            }
            for (Debt d : debts) {
                if (d.left > 0 && d.age < 999) {
                    d.age++;
                }
            }
            year++;
            for (Debt d : debts) {
                if (d.left > 0 && year % growYears == 0) {
                    d.left = Math.min(9999, d.left + growCoins);
                }
            }
        }

        int drawYears(int n, int seed) {
            int[] x = {seed};
            int went = 0;
            while (went < n && year < 400) {
                for (int h = 0; h < houses.size(); h++) {
                    switch (draw(x, 6)) {
                        case 0 -> {
                            int g = draw(x, houses.size());
                            int sum = draw(x, 20) + 1;
                            if (g != h) {
                                borrow(h, g, sum);
                            }
                        }
                        case 1, 2 -> {
                            if (!debts.isEmpty()) {
                                int d = draw(x, debts.size());
                                int sum = draw(x, 20) + 1;
                                pay(d, sum);
                            }
                        }
                        case 3 -> {
                            if (!debts.isEmpty()) {
                                sell(draw(x, debts.size()), h);
                            }
                        }
                        default -> { }
                    }
                }
                passYear();
                went++;
            }
            return went;
        }

        private static int draw(int[] x, int n) {
            x[0] = x[0] * 1103515245 + 12345;
            return (x[0] >>> 8) % n;
        }

        /** All rings from a house, as texts of house numbers; the shortest, then the least text, is the one. */
        String ring(int h) {
            List<String> found = new ArrayList<>();
            rings(h, h, "" + h, found);
            String best = null;
            for (String r : found) {
                if (best == null || r.length() < best.length() || r.length() == best.length() && r.compareTo(best) < 0) {
                    best = r;
                }
            }
            return best;
        }

        private void rings(int start, int at, String way, List<String> found) {
            for (int g = 0; g < houses.size(); g++) {
                if (owed(at, g) > 0) {
                    if (g == start) {
                        found.add(way);
                    } else if (way.indexOf('0' + g) < 0) {
                        rings(start, g, way + g, found);
                    }
                }
            }
        }
    }

    static final class Fault extends RuntimeException {
        private static final long serialVersionUID = 1;
        final int kind;
        final int place;

        Fault(int kind, int place) {
            this.kind = kind;
            this.place = place;
        }
    }

    record Token(String text, int place) {
        boolean isNumber() {
            return text.matches("[0-9]{1,3}");
        }

        boolean isWord() {
            return text.matches("[a-z]{1,7}");
        }

        boolean isName() {
            return isWord() && !WORDS.contains(text);
        }
    }

    private final List<Integer> tape = new ArrayList<>();
    private State state = new State();
    private BiPredicate<State, Integer> sentence = null;
    private final Deque<State> past = new ArrayDeque<>();
    private final Map<Integer, State> imageStates = new HashMap<>();
    private final Map<Integer, BiPredicate<State, Integer>> imageSentences = new HashMap<>();
    private int fault = 0;
    private int ableOf = -1;
    private String ring = "";
    private int ask = -1;
    private String line = "";
    private int[] told = null;

    // the text that is read
    private List<Token> tokens;
    private int next;
    private int ones;

    // ---- reading

    private void tokenize(int limit) {
        tokens = new ArrayList<>();
        next = 0;
        StringBuilder sb = new StringBuilder();
        for (int b : tape) {
            sb.append((char) b);
        }
        String text = sb.toString();
        int i = 0;
        while (i < text.length()) {
            char c = text.charAt(i);
            if (c == ' ' || c == '\n') {
                i++;
                continue;
            }
            int j = i + 1;
            if (runs(c)) {
                while (j < text.length() && runs(text.charAt(j))) {
                    j++;
                }
            }
            tokens.add(new Token(text.substring(i, j), i));
            i = j;
        }
        tokens.add(new Token("", text.length()));
        if (text.length() > limit) {
            tokens.removeIf(t -> t.place >= limit);
            tokens.add(new Token("too long", limit));
        }
        tape.clear();
    }

    private static boolean runs(char c) {
        return c >= 'a' && c <= 'z' || c >= '0' && c <= '9';
    }

    private Token peek() {
        return tokens.get(next);
    }

    private void expect(String text) {
        if (!peek().text.equals(text)) {
            throw new Fault(1, peek().place);
        }
        next++;
    }

    private int expectNumber(int least, int most) {
        Token t = peek();
        if (!t.isNumber()) {
            throw new Fault(1, t.place);
        }
        int n = Integer.parseInt(t.text);
        if (n < least || n > most) {
            throw new Fault(2, t.place);
        }
        next++;
        return n;
    }

    private int find(State s, String name) {
        for (int h = 0; h < s.houses.size(); h++) {
            if (s.houses.get(h).name.equals(name)) {
                return h;
            }
        }
        return -1;
    }

    private int expectHouse(State s) {
        Token t = peek();
        if (!t.isName()) {
            throw new Fault(1, t.place);
        }
        int h = find(s, t.text);
        if (h < 0) {
            throw new Fault(3, t.place);
        }
        next++;
        return h;
    }

    private int expectOtherHouse(State s, int unlike) {
        int place = peek().place;
        int h = expectHouse(s);
        if (h == unlike) {
            throw new Fault(3, place);
        }
        return h;
    }

    // ---- the face

    int feed(int a, int b, int c, int d, int e) {
        if (tape.size() > 920) {
            return -1;
        }
        for (int n : new int[] {a, b, c, d, e}) {
            tape.add(n >>> 24);
            tape.add(n >> 16 & 255);
            tape.add(n >> 8 & 255);
            tape.add(n & 255);
        }
        return tape.size();
    }

    boolean end(int n) {
        if (n < 0 || n > tape.size()) {
            return false;
        }
        while (tape.size() > n) {
            tape.remove(tape.size() - 1);
        }
        return true;
    }

    int shire() {
        try {
            tokenize(900);
            State s = new State();
            int lines = 0;
            boolean grown = false;
            while (!peek().text.isEmpty()) {
                Token t = peek();
                switch (t.text) {
                    case "house" -> {
                        if (s.houses.size() == 6) {
                            throw new Fault(4, t.place);
                        }
                        next++;
                        Token name = peek();
                        if (!name.isName()) {
                            throw new Fault(1, name.place);
                        }
                        if (find(s, name.text) >= 0) {
                            throw new Fault(3, name.place);
                        }
                        next++;
                        House h = new House();
                        h.name = name.text;
                        h.coins = expectNumber(0, 999);
                        h.income = expectNumber(0, 30);
                        h.chairs = expectNumber(1, 6);
                        s.houses.add(h);
                    }
                    case "debt" -> {
                        if (s.debts.size() == 12) {
                            throw new Fault(4, t.place);
                        }
                        next++;
                        Debt d = new Debt();
                        d.from = expectHouse(s);
                        d.to = expectOtherHouse(s, d.from);
                        d.left = expectNumber(1, 200);
                        d.age = expectNumber(0, 99);
                        s.debts.add(d);
                    }
                    case "grows" -> {
                        if (grown) {
                            throw new Fault(3, t.place);
                        }
                        grown = true;
                        next++;
                        s.growCoins = expectNumber(0, 9);
                        s.growYears = expectNumber(1, 30);
                    }
                    default -> throw new Fault(1, t.place);
                }
                expect(";");
                lines++;
            }
            state = s;
            sentence = null;
            past.clear();
            fault = 0;
            return lines;
        } catch (Fault f) {
            fault = f.kind;
            return -1 - f.place;
        }
    }

    int fault() {
        return fault;
    }

    private House houseOf(int h) {
        if (!state.isHouse(h)) {
            throw new NoSuchElementException();
        }
        return state.houses.get(h);
    }

    int house(int h, int what) {
        House house = houseOf(h);
        return switch (what) {
            case 0 -> house.coins;
            case 1 -> house.income;
            case 2 -> house.chairs;
            case 3 -> state.owed(h, -1);
            case 4 -> state.owed(-1, h);
            case 5 -> state.table(h).stream().mapToInt(d -> 1 << d).sum();
            case 6 -> (int) state.table(h).stream().skip(house.chairs).count();
            default -> throw new NoSuchElementException();
        };
    }

    int worth(int h) {
        return houseOf(h).coins + state.owed(-1, h) - state.owed(h, -1);
    }

    int debt(int d, int what) {
        return state.isDebt(d) ? state.trait(d, what) : -1;
    }

    int at(int h, int k) {
        if (!state.isHouse(h) || k < 0 || k >= state.houses.get(h).chairs || k >= state.table(h).size()) {
            return -1;
        }
        return state.table(h).get(k);
    }

    int now(int what) {
        int bits = 0;
        int coins = 0;
        int ringed = 0;
        int broke = 0;
        for (int d = 0; d < state.debts.size(); d++) {
            bits |= state.debts.get(d).left > 0 ? 1 << d : 0;
        }
        for (int h = 0; h < state.houses.size(); h++) {
            coins += state.houses.get(h).coins;
            ringed |= state.ring(h) != null ? 1 << h : 0;
            broke |= state.broke(h) ? 1 << h : 0;
        }
        return switch (what) {
            case 0 -> state.year;
            case 1 -> coins;
            case 2 -> state.owed(-1, -1);
            case 3 -> bits;
            case 4 -> state.paid;
            case 5 -> broke;
            case 6 -> ringed;
            default -> -1;
        };
    }

    private void keep(State before) {
        past.addLast(before);
        if (past.size() > 8) {
            past.removeFirst();
        }
    }

    private int done(State before, int why) {
        if (why == 0) {
            keep(before);
        }
        return why;
    }

    int pay(int d, int n) {
        return state.isDebt(d) && 1 <= n && n <= 999 ? done(state.copy(), state.pay(d, n)) : -1;
    }

    int borrow(int h, int g, int n) {
        return state.isHouse(h) && state.isHouse(g) && h != g && 1 <= n && n <= 200
                ? done(state.copy(), state.borrow(h, g, n)) : -1;
    }

    int sell(int d, int h) {
        return state.isDebt(d) && state.isHouse(h) ? done(state.copy(), state.sell(d, h)) : -1;
    }

    int forgive(int d) {
        return state.isDebt(d) ? done(state.copy(), state.forgive(d)) : -1;
    }

    int clear(int d, int e) {
        return state.isDebt(d) && state.isDebt(e) ? done(state.copy(), state.clear(d, e)) : -1;
    }

    int years(int n) {
        if (n < 1 || n > 60) {
            return -1;
        }
        State before = state.copy();
        int went = 0;
        while (went < n && state.year < 400) {
            state.passYear();
            went++;
        }
        if (went > 0) {
            keep(before);
        }
        return went;
    }

    int undo() {
        if (past.isEmpty()) {
            return -1;
        }
        state = past.removeLast();
        return past.size();
    }

    int top(int d) {
        if (!state.isDebt(d) || state.debts.get(d).left == 0) {
            return -1;
        }
        int sum = 0;
        for (int e : state.table(state.debts.get(d).from)) {
            if (e == d) {
                break;
            }
            sum += state.debts.get(e).left;
        }
        return sum;
    }

    int able(int h) {
        if (!state.isHouse(h)) {
            return -1;
        }
        int bestBits = 0;
        int bestCount = 0;
        int bestCost = 0;
        int all = house(h, 5);
        for (int bits = 1; bits < 4096; bits++) {
            if ((bits & ~all) != 0) {
                continue;
            }
            int cost = 0;
            for (int d = 0; d < 12; d++) {
                cost += (bits >> d & 1) == 1 ? state.debts.get(d).left : 0;
            }
            int number = Integer.bitCount(bits);
            if (cost <= state.houses.get(h).coins
                    && (number > bestCount || number == bestCount && cost < bestCost)) {
                bestBits = bits;
                bestCount = number;
                bestCost = cost;
            }
        }
        ableOf = bestBits;
        return bestCount;
    }

    int ableOf() {
        return ableOf;
    }

    int meets(int h) {
        if (!state.isHouse(h)) {
            return -1;
        }
        State s = state.copy();
        for (int t = 0; t < 100; t++) {
            if (s.broke(h)) {
                return t;
            }
            s.passYear();
        }
        return -1;
    }

    int ring(int h) {
        String found = state.isHouse(h) ? state.ring(h) : null;
        if (found == null) {
            return -1;
        }
        ring = found;
        return found.length();
    }

    int ringAt(int k) {
        return k >= 0 && k < ring.length() ? ring.charAt(k) - '0' : -1;
    }

    int settle() {
        List<Integer> rest = new ArrayList<>();
        for (int h = 0; h < state.houses.size(); h++) {
            int balance = state.owed(-1, h) - state.owed(h, -1);
            if (balance != 0) {
                rest.add(balance);
            }
        }
        return rest.size() - mostSets(rest);
    }

    /** The set with the first of them in it, tried in every way, and the best of the rest. */
    private static int mostSets(List<Integer> rest) {
        int best = rest.isEmpty() ? 0 : -100;
        for (int bits = 1; bits < 1 << rest.size(); bits += 2) {
            int sum = 0;
            List<Integer> others = new ArrayList<>();
            for (int i = 0; i < rest.size(); i++) {
                if ((bits >> i & 1) == 1) {
                    sum += rest.get(i);
                } else {
                    others.add(rest.get(i));
                }
            }
            if (sum == 0) {
                best = Math.max(best, 1 + mostSets(others));
            }
        }
        return best;
    }

    int which() {
        List<Integer> pairs = new ArrayList<>(tape);
        tape.clear();
        if (pairs.isEmpty() || pairs.size() > 16 || pairs.size() % 2 == 1) {
            return -1;
        }
        for (int i = 0; i < pairs.size(); i += 2) {
            if (pairs.get(i) > 4) {
                return -1;
            }
        }
        List<Integer> found = new ArrayList<>();
        for (int d = 0; d < state.debts.size(); d++) {
            boolean fits = state.debts.get(d).left > 0;
            for (int i = 0; i < pairs.size(); i += 2) {
                fits &= state.trait(d, pairs.get(i)) == pairs.get(i + 1);
            }
            if (fits) {
                found.add(d);
            }
        }
        if (!found.isEmpty()) {
            int least = 100;
            for (int what = 0; what < 5; what++) {
                Map<Integer, Integer> groups = new HashMap<>();
                for (int d : found) {
                    groups.merge(state.trait(d, what), 1, Integer::sum);
                }
                int greatest = groups.values().stream().mapToInt(i -> i).max().getAsInt();
                if (greatest < least) {
                    least = greatest;
                    ask = what;
                }
            }
        }
        return found.stream().mapToInt(d -> 1 << d).sum();
    }

    int ask() {
        return ask;
    }

    int fullest() {
        int best = -1;
        for (int h = 0; h < state.houses.size(); h++) {
            // sixtieths: every number of chairs divides them
            if (best < 0 || full(h) > full(best)) {
                best = h;
            }
        }
        return best;
    }

    private int full(int h) {
        return state.table(h).size() * 60 / state.houses.get(h).chairs;
    }

    int mean(int h, int what) {
        houseOf(h);
        List<Integer> table = state.table(h);
        if (table.isEmpty() || what < 0 || what > 1) {
            throw new NoSuchElementException();
        }
        int above = table.stream().mapToInt(d -> state.debts.get(d).age).sum();
        int below = table.size();
        for (int i = 2; i <= 12; i++) {
            while (above % i == 0 && below % i == 0) {
                above /= i;
                below /= i;
            }
        }
        return what == 0 ? above : below;
    }

    int line(int d) {
        if (!state.isDebt(d)) {
            return -1;
        }
        Debt debt = state.debts.get(d);
        line = state.houses.get(debt.from).name + " owes " + state.houses.get(debt.to).name
                + (debt.left == 0 ? " paid" : " " + debt.left + " of " + debt.age);
        return line.length();
    }

    int byteAt(int i) {
        return i >= 0 && i < line.length() ? line.charAt(i) : -1;
    }

    int drawn(int n, int seed) {
        if (n < 1 || n > 60) {
            return -1;
        }
        State before = state.copy();
        int went = state.drawYears(n, seed);
        if (went > 0) {
            keep(before);
        }
        return went;
    }

    int odds(int h, int n, int seed) {
        if (!state.isHouse(h) || n < 1 || n > 30) {
            return -1;
        }
        int number = 0;
        for (int i = 0; i < n; i++) {
            State s = state.copy();
            s.drawYears(20, seed + i);
            number += s.broke(h) ? 1 : 0;
        }
        return number;
    }

    private static int code(int base, int why) {
        return why == 0 ? 0 : base + why;
    }

    private int liveLine(State s, int[] line) {
        boolean there = s.isDebt(line[1]);
        return switch (line[0]) {
            case 0 -> there ? s.pay(line[1], line[2]) : 9;
            case 1 -> code(10, s.borrow(line[1], line[2], line[3]));
            case 2 -> there ? code(20, s.sell(line[1], line[2])) : 29;
            case 3 -> there ? code(30, s.forgive(line[1])) : 39;
            case 4 -> there && s.isDebt(line[2]) ? code(40, s.clear(line[1], line[2])) : 49;
            default -> {
                if (s.year + line[1] > 400) {
                    yield 51;
                }
                for (int i = 0; i < line[1]; i++) {
                    s.passYear();
                }
                yield 0;
            }
        };
    }

    private int[] bookLine(int lines) {
        Token t = peek();
        int kind = Arrays.asList("pay", "", "sell", "forgive", "clear", "year").indexOf(t.text);
        if (t.isName()) {
            kind = 1;
            if (find(state, t.text) < 0) {
                throw new Fault(3, t.place);
            }
        }
        if (kind < 0) {
            throw new Fault(1, t.place);
        }
        if (lines == 40) {
            throw new Fault(4, t.place);
        }
        next++;
        if (kind == 1) {
            int h = find(state, t.text);
            expect("borrows");
            int n = expectNumber(1, 200);
            return new int[] {1, h, expectOtherHouse(state, h), n};
        }
        if (kind == 5) {
            return new int[] {5, expectNumber(1, 60)};
        }
        int d = expectNumber(0, 11);
        return switch (kind) {
            case 0 -> new int[] {0, d, expectNumber(1, 999)};
            case 2 -> new int[] {2, d, expectHouse(state)};
            case 3 -> new int[] {3, d};
            default -> new int[] {4, d, expectNumber(0, 11)};
        };
    }

    int book(int lives) {
        if (lives != 0 && lives != 1) {
            return -1000;
        }
        List<int[]> lines = new ArrayList<>();
        try {
            tokenize(400);
            while (!peek().text.isEmpty()) {
                lines.add(bookLine(lines.size()));
                expect(";");
            }
            fault = 0;
        } catch (Fault f) {
            fault = f.kind;
            return -2 - f.place;
        }
        State s = state.copy();
        int wrong = -1;
        int why = 0;
        for (int i = 0; i < lines.size() && wrong < 0; i++) {
            why = liveLine(s, lines.get(i));
            wrong = why == 0 ? -1 : i;
        }
        int lived = wrong < 0 ? lines.size() : wrong;
        told = new int[] {why, lived, s.year, s.owed(-1, -1)};
        if (lives == 1 && lived > 0) {
            keep(state);
            state = s;
        }
        return wrong;
    }

    int told(int what) {
        return told == null || what < 0 || what > 3 ? -1 : told[what];
    }

    int sentence() {
        try {
            tokenize(200);
            ones = 0;
            BiPredicate<State, Integer> c = condition(1);
            expect("");
            sentence = c;
            fault = 0;
            return ones;
        } catch (Fault f) {
            fault = f.kind;
            return -1 - f.place;
        }
    }

    private BiPredicate<State, Integer> condition(int depth) {
        BiPredicate<State, Integer> c = all(depth);
        while (peek().text.equals("or")) {
            next++;
            c = c.or(all(depth));
        }
        return c;
    }

    private BiPredicate<State, Integer> all(int depth) {
        BiPredicate<State, Integer> c = one(depth);
        while (peek().text.equals("and")) {
            next++;
            c = c.and(one(depth));
        }
        return c;
    }

    private BiPredicate<State, Integer> one(int depth) {
        Token t = peek();
        if (!Set.of("not", "(", "free", "broke", "full", "owes", "ringed", "coins", "debts", "chairs", "number")
                .contains(t.text)) {
            throw new Fault(1, t.place);
        }
        if (ones == 20 || depth == 9) {
            throw new Fault(4, t.place);
        }
        ones++;
        next++;
        switch (t.text) {
            case "not":
                return one(depth + 1).negate();
            case "(":
                BiPredicate<State, Integer> inner = condition(depth + 1);
                expect(")");
                return inner;
            case "free":
                return (s, h) -> s.table(h).isEmpty();
            case "broke":
                return State::broke;
            case "full":
                return (s, h) -> s.table(h).size() >= s.houses.get(h).chairs;
            case "owes":
                int g = expectHouse(state);
                return (s, h) -> s.owed(h, g) > 0;
            case "ringed":
                return (s, h) -> s.ring(h) != null;
            default:
                Token sign = peek();
                if (!Set.of("<", "=", ">").contains(sign.text)) {
                    throw new Fault(1, sign.place);
                }
                next++;
                int n = expectNumber(0, 999);
                return (s, h) -> {
                    int m = switch (t.text) {
                        case "coins" -> s.houses.get(h).coins;
                        case "debts" -> s.table(h).size();
                        case "chairs" -> s.houses.get(h).chairs;
                        default -> h;
                    };
                    return sign.text.equals("<") ? m < n : sign.text.equals("=") ? m == n : m > n;
                };
        }
    }

    int said(int k) {
        if (sentence == null) {
            return -1;
        }
        List<Integer> found = new ArrayList<>();
        for (int h = 0; h < state.houses.size(); h++) {
            if (sentence.test(state, h)) {
                found.add(h);
            }
        }
        return k == -1 ? found.size() : k >= 0 && k < found.size() ? found.get(k) : -1;
    }

    boolean image(int k) {
        if (k != 0 && k != 1) {
            return false;
        }
        imageStates.put(k, state.copy());
        imageSentences.put(k, sentence);
        return true;
    }

    boolean restore(int k) {
        if (!imageStates.containsKey(k)) {
            return false;
        }
        state = imageStates.get(k).copy();
        sentence = imageSentences.get(k);
        past.clear();
        return true;
    }

    int count(int what) {
        return switch (what) {
            case 0 -> state.houses.size();
            case 1 -> state.debts.size();
            case 2 -> state.growCoins;
            case 3 -> state.growYears;
            case 4 -> tape.size();
            default -> -1;
        };
    }
}
