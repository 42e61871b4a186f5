import java.util.ArrayDeque;
import java.util.ArrayList;
import java.util.Arrays;
import java.util.Deque;
import java.util.HashMap;
import java.util.List;
import java.util.Map;
import java.util.NoSuchElementException;
import java.util.Set;
import java.util.function.BiPredicate;

/**
 * A second telling of the document, slow and plain, with all that the Java library has: the class is
 * compared with it. It shares no code and, where there is a choice, no way of working with the class.
 */
final class Model {
    static final Set<String> RESERVED = Set.of("person", "dish", "plate", "law", "dogs", "of", "spoils", "next",
            "child", "least", "eats", "served", "rises", "refuses", "accepts", "dies", "meal", "or", "and", "not",
            "dead", "refused", "clean", "has", "wants", "eaten", "hunger", "number");

    private static final class Fault extends RuntimeException {
        private static final long serialVersionUID = 1;
        final int kind;
        final int place;

        Fault(int kind, int place) {
            this.kind = kind;
            this.place = place;
        }
    }

    private record Token(String text, int place) {
        boolean isWord() {
            return text.matches("[a-z]{1,7}");
        }

        boolean isName() {
            return isWord() && !RESERVED.contains(text);
        }

        boolean isNumber() {
            return text.matches("[0-9]{1,3}");
        }
    }

    /** The TOKENS of a text; what is no TOKEN, or lies beyond the most bytes, is a text of its own. */
    private static final class Text {
        final List<Token> tokens = new ArrayList<>();
        int next = 0;

        Text(String text, int most) {
            int i = 0;
            while (i < text.length() && i < most) {
                char c = text.charAt(i);
                if (c == ' ' || c == '\n') {
                    i++;
                    continue;
                }
                int from = i;
                i++;
                if (("" + c).matches("[a-z0-9]")) {
                    while (i < text.length() && ("" + text.charAt(i)).matches("[a-z0-9]")) {
                        i++;
                    }
                }
                tokens.add(new Token(text.substring(from, i), from));
            }
            tokens.add(text.length() > most ? new Token("too long!", most) : new Token("", text.length()));
        }

        Token peek() {
            return tokens.get(next);
        }

        boolean atEnd() {
            return peek().text.isEmpty();
        }

        boolean is(String text) {
            return peek().text.equals(text);
        }

        Token take() {
            return tokens.get(next++);
        }

        void expect(String text) {
            if (!is(text)) {
                throw new Fault(1, peek().place);
            }
            take();
        }

        int number(int from, int to) {
            Token t = peek();
            if (!t.isNumber()) {
                throw new Fault(1, t.place);
            }
            int n = Integer.parseInt(t.text);
            if (n < from || n > to) {
                throw new Fault(2, t.place);
            }
            take();
            return n;
        }

        int name(List<String> known) {
            Token t = peek();
            if (!t.isName()) {
                throw new Fault(1, t.place);
            }
            if (!known.contains(t.text)) {
                throw new Fault(3, t.place);
            }
            take();
            return known.indexOf(t.text);
        }
    }

    private static final class State {
        List<String> persons = new ArrayList<>();
        List<Integer> wants = new ArrayList<>();
        List<Integer> parent = new ArrayList<>();
        List<String> dishes = new ArrayList<>();
        List<Integer> parts = new ArrayList<>();
        List<Integer> spoils = new ArrayList<>();
        Map<String, Integer> plates = new HashMap<>();
        String law = "next";
        int dogs = 0;
        int meal = 0;
        boolean[] dead = new boolean[7];
        boolean[] refuses = new boolean[7];
        int[] eaten = new int[7];
        int[] now = new int[7];
        int[] hunger = new int[7];
        int dogsHad = 0;
        int spoiled = 0;
        int passed = 0;

        State copy() {
            State s = new State();
            s.persons = new ArrayList<>(persons);
            s.wants = new ArrayList<>(wants);
            s.parent = new ArrayList<>(parent);
            s.dishes = new ArrayList<>(dishes);
            s.parts = new ArrayList<>(parts);
            s.spoils = new ArrayList<>(spoils);
            s.plates = new HashMap<>(plates);
            s.law = law;
            s.dogs = dogs;
            s.meal = meal;
            s.dead = dead.clone();
            s.refuses = refuses.clone();
            s.eaten = eaten.clone();
            s.now = now.clone();
            s.hunger = hunger.clone();
            s.dogsHad = dogsHad;
            s.spoiled = spoiled;
            s.passed = passed;
            return s;
        }

        int n() {
            return persons.size();
        }

        int plate(int p, int d) {
            return plates.getOrDefault(p + "," + d, 0);
        }

        void put(int p, int d, int parts) {
            plates.put(p + "," + d, parts);
        }

        int all(int p) {
            int sum = 0;
            for (int d = 0; d < dishes.size(); d++) {
                sum += plate(p, d);
            }
            return sum;
        }

        boolean can(int q) {
            return !dead[q] && !refuses[q];
        }

        int next(int p) {
            for (int i = 1; i < n(); i++) {
                if (can((p + i) % n())) {
                    return (p + i) % n();
                }
            }
            return -1;
        }

        int heir(int p) {
            if (law.equals("child")) {
                for (int q = 0; q < n(); q++) {
                    if (parent.get(q) == p && can(q)) {
                        return q;
                    }
                }
            }
            if (!law.equals("least")) {
                return next(p);
            }
            int heir = -1;
            for (int q = n() - 1; q >= 0; q--) {
                if (q != p && can(q) && (heir < 0 || eaten[q] <= eaten[heir])) {
                    heir = q;
                }
            }
            return heir;
        }

        void pass(int p) {
            passed++;
            int heir = heir(p);
            for (int bite = 0; bite < dogs; bite++) {
                for (int d = 0; d < dishes.size(); d++) {
                    if (plate(p, d) > 0) {
                        put(p, d, plate(p, d) - 1);
                        dogsHad++;
                        break;
                    }
                }
            }
            for (int d = 0; d < dishes.size(); d++) {
                if (heir >= 0) {
                    put(heir, d, plate(heir, d) + plate(p, d));
                } else {
                    parts.set(d, parts.get(d) + plate(p, d));
                }
                put(p, d, 0);
            }
        }

        int eat(int p, int d, int n) {
            if (dead[p]) {
                return 1;
            }
            if (plate(p, d) < n) {
                return 2;
            }
            if (now[p] + n > wants.get(p)) {
                return 3;
            }
            put(p, d, plate(p, d) - n);
            now[p] += n;
            eaten[p] += n;
            return 0;
        }

        /** Part by part, DISH by DISH. */
        void eatAll(int p) {
            for (int d = 0; d < dishes.size(); d++) {
                for (int i = 0; i < 20; i++) {
                    eat(p, d, 1);
                }
            }
        }

        int serve(int p, int d, int n) {
            if (dead[p]) {
                return 1;
            }
            if (parts.get(d) < n) {
                return 2;
            }
            parts.set(d, parts.get(d) - n);
            put(p, d, plate(p, d) + n);
            return 0;
        }

        int rise(int p) {
            if (dead[p]) {
                return 1;
            }
            if (all(p) == 0) {
                return 2;
            }
            pass(p);
            return 0;
        }

        int refuse(int p, boolean so) {
            if (dead[p]) {
                return 1;
            }
            if (refuses[p] == so) {
                return 2;
            }
            refuses[p] = so;
            return 0;
        }

        int die(int p) {
            if (dead[p]) {
                return 1;
            }
            dead[p] = true;
            if (all(p) > 0) {
                pass(p);
            }
            return 0;
        }

        boolean mealGoes() {
            if (meal == 200) {
                return false;
            }
            for (int p = 0; p < n(); p++) {
                if (!dead[p]) {
                    hunger[p] += wants.get(p) - now[p];
                }
            }
            for (int d = 0; d < dishes.size(); d++) {
                for (int p = 0; p < n(); p++) {
                    for (int i = 0; i < spoils.get(d); i++) {
                        if (plate(p, d) > 0) {
                            put(p, d, plate(p, d) - 1);
                            spoiled++;
                        }
                    }
                }
            }
            meal++;
            Arrays.fill(now, 0);
            return true;
        }

        int drawn(int n, int x) {
            int went = 0;
            for (int i = 0; i < n && meal < 200; i++) {
                for (int p = 0; p < n(); p++) {
                    if (dead[p]) {
                        continue;
                    }
                    x = x * 1103515245 + 12345;
                    switch ((x >>> 8) % 6) {
                        case 0 -> rise(p);
                        case 1 -> {
                            x = x * 1103515245 + 12345;
                            if ((x >>> 8) % 4 == 0) {
                                die(p);
                            }
                        }
                        default -> eatAll(p);
                    }
                }
                went += mealGoes() ? 1 : 0;
            }
            return went;
        }

        int yet() {
            int sum = 0;
            for (int p = 0; p < n(); p++) {
                sum += dead[p] ? 0 : wants.get(p) - now[p];
            }
            return sum;
        }

        List<Integer> living() {
            List<Integer> living = new ArrayList<>();
            for (int p = 0; p < n(); p++) {
                if (!dead[p]) {
                    living.add(p);
                }
            }
            return living;
        }
    }

    private StringBuilder tape = new StringBuilder();
    private State s = new State();
    private BiPredicate<State, Integer> saying = null;
    private int fault = 0;
    private final Deque<State> past = new ArrayDeque<>();
    private List<Integer> order = List.of();
    private List<Integer> seats = List.of();
    private int surely = -1;
    private int ask = -1;
    private String will = "";
    private int[] told = null;
    private final State[] images = new State[2];
    private final List<BiPredicate<State, Integer>> sayings = new ArrayList<>(Arrays.asList(null, null));
    private int ones;

    private boolean person(int p) {
        return p >= 0 && p < s.n();
    }

    private boolean dish(int d) {
        return d >= 0 && d < s.dishes.size();
    }

    private static int bits(boolean[] flags) {
        int bits = 0;
        for (int i = 0; i < flags.length; i++) {
            bits += flags[i] ? 1 << i : 0;
        }
        return bits;
    }

    private String emptied() {
        String text = tape.toString();
        tape = new StringBuilder();
        return text;
    }

    int feed(int a, int b, int c, int d, int e) {
        if (tape.length() + 20 > 940) {
            return -1;
        }
        for (int x : new int[] {a, b, c, d, e}) {
            for (int i = 3; i >= 0; i--) {
                tape.append((char) (x >>> 8 * i & 255));
            }
        }
        return tape.length();
    }

    boolean end(int n) {
        if (n < 0 || n > tape.length()) {
            return false;
        }
        tape.setLength(n);
        return true;
    }

    int table() {
        Text text = new Text(emptied(), 900);
        State fresh = new State();
        boolean[] once = new boolean[2];
        int lines = 0;
        try {
            while (!text.atEnd()) {
                tableLine(text, fresh, once);
                lines++;
            }
        } catch (Fault f) {
            fault = f.kind;
            return -1 - f.place;
        }
        fault = 0;
        s = fresh;
        saying = null;
        past.clear();
        return lines;
    }

    private static String newName(Text text, State fresh) {
        Token t = text.peek();
        if (!t.isName()) {
            throw new Fault(1, t.place);
        }
        if (fresh.persons.contains(t.text) || fresh.dishes.contains(t.text)) {
            throw new Fault(3, t.place);
        }
        return text.take().text;
    }

    private static void tableLine(Text text, State fresh, boolean[] once) {
        Token first = text.take();
        switch (first.text) {
            case "person" -> {
                if (fresh.n() == 7) {
                    throw new Fault(4, first.place);
                }
                String name = newName(text, fresh);
                int wants = text.number(0, 20);
                int parent = -1;
                if (text.is("of")) {
                    text.take();
                    parent = text.name(fresh.persons);
                }
                fresh.persons.add(name);
                fresh.wants.add(wants);
                fresh.parent.add(parent);
            }
            case "dish" -> {
                if (fresh.dishes.size() == 6) {
                    throw new Fault(4, first.place);
                }
                fresh.dishes.add(newName(text, fresh));
                fresh.parts.add(text.number(0, 99));
                int spoils = 0;
                if (text.is("spoils")) {
                    text.take();
                    spoils = text.number(1, 9);
                }
                fresh.spoils.add(spoils);
            }
            case "plate" -> {
                int p = text.name(fresh.persons);
                int place = text.peek().place;
                int d = text.name(fresh.dishes);
                if (fresh.plates.containsKey(p + "," + d)) {
                    throw new Fault(3, place);
                }
                fresh.put(p, d, text.number(1, 40));
            }
            case "law" -> {
                if (once[0]) {
                    throw new Fault(3, first.place);
                }
                once[0] = true;
                if (!List.of("next", "child", "least").contains(text.peek().text)) {
                    throw new Fault(1, text.peek().place);
                }
                fresh.law = text.take().text;
            }
            case "dogs" -> {
                if (once[1]) {
                    throw new Fault(3, first.place);
                }
                once[1] = true;
                fresh.dogs = text.number(0, 9);
            }
            default -> throw new Fault(1, first.place);
        }
        text.expect(";");
    }

    int fault() {
        return fault;
    }

    int person(int p, int what) {
        if (!person(p) || what < 0 || what > 8) {
            throw new NoSuchElementException();
        }
        boolean[] children = new boolean[7];
        for (int q = 0; q < s.n(); q++) {
            children[q] = s.parent.get(q) == p;
        }
        return new int[] {s.wants.get(p), s.parent.get(p), s.dead[p] ? 1 : 0, s.refuses[p] ? 1 : 0, s.eaten[p], s.now[p],
            s.hunger[p], s.all(p), bits(children)}[what];
    }

    int plate(int p, int d) {
        return person(p) && dish(d) ? s.plate(p, d) : -1;
    }

    int dish(int d, int what) {
        if (!dish(d) || what < 0 || what > 2) {
            return -1;
        }
        int on = 0;
        for (int p = 0; p < s.n(); p++) {
            on += s.plate(p, d);
        }
        return new int[] {s.parts.get(d), s.spoils.get(d), on}[what];
    }

    int now(int what) {
        int[] all = {s.meal, bits(s.dead), bits(s.refuses), s.dogsHad, s.spoiled, Arrays.stream(s.eaten).sum(),
            Arrays.stream(s.hunger).sum(), s.passed};
        return what < 0 || what > 7 ? -1 : all[what];
    }

    private int act(int p, java.util.function.ToIntFunction<State> act) {
        if (!person(p)) {
            return -1;
        }
        State after = s.copy();
        int why = act.applyAsInt(after);
        if (why == 0) {
            keep(after);
        }
        return why;
    }

    private void keep(State after) {
        past.addLast(s);
        if (past.size() > 8) {
            past.removeFirst();
        }
        s = after;
    }

    int eat(int p, int d, int n) {
        return dish(d) && n >= 1 && n <= 20 ? act(p, t -> t.eat(p, d, n)) : -1;
    }

    int serve(int p, int d, int n) {
        return dish(d) && n >= 1 && n <= 40 ? act(p, t -> t.serve(p, d, n)) : -1;
    }

    int rise(int p) {
        return act(p, t -> t.rise(p));
    }

    int refuse(int p) {
        return act(p, t -> t.refuse(p, true));
    }

    int accept(int p) {
        return act(p, t -> t.refuse(p, false));
    }

    int die(int p) {
        return act(p, t -> t.die(p));
    }

    int meals(int n) {
        if (n < 1 || n > 60) {
            return -1;
        }
        State after = s.copy();
        int went = 0;
        for (int i = 0; i < n; i++) {
            went += after.mealGoes() ? 1 : 0;
        }
        if (went > 0) {
            keep(after);
        }
        return went;
    }

    int undo() {
        if (past.isEmpty()) {
            return -1;
        }
        s = past.removeLast();
        return past.size();
    }

    int heir(int p) {
        return person(p) ? s.heir(p) : -1;
    }

    int line(int p, int k) {
        if (!person(p) || k < 0) {
            return -1;
        }
        State t = s.copy();
        List<Integer> line = new ArrayList<>();
        while (t.heir(p) >= 0) {
            line.add(t.heir(p));
            t.refuses[t.heir(p)] = true;
        }
        return k < line.size() ? line.get(k) : -1;
    }

    /** All orders of some, the least ahead. */
    private static List<List<Integer>> rows(List<Integer> some) {
        if (some.isEmpty()) {
            return List.of(List.of());
        }
        List<List<Integer>> rows = new ArrayList<>();
        for (int i = 0; i < some.size(); i++) {
            List<Integer> others = new ArrayList<>(some);
            others.remove(i);
            for (List<Integer> row : rows(others)) {
                List<Integer> whole = new ArrayList<>(List.of(some.get(i)));
                whole.addAll(row);
                rows.add(whole);
            }
        }
        return rows;
    }

    int order() {
        int best = Integer.MAX_VALUE;
        for (List<Integer> row : rows(s.living())) {
            State t = s.copy();
            for (int p : row) {
                t.eatAll(p);
                t.rise(p);
            }
            if (t.yet() < best) {
                best = t.yet();
                order = row;
            }
        }
        return best;
    }

    int orderAt(int k) {
        return k >= 0 && k < order.size() ? order.get(k) : -1;
    }

    int eaters() {
        String text = emptied();
        if (text.length() != 2 || !dish(text.charAt(0))) {
            return -1;
        }
        List<Integer> sets = new ArrayList<>();
        for (int set = 0; set < 1 << s.n(); set++) {
            int sum = 0;
            for (int p = 0; p < s.n(); p++) {
                sum += set / (1 << p) % 2 * s.plate(p, text.charAt(0));
            }
            if (sum == text.charAt(1)) {
                sets.add(set);
            }
        }
        if (!sets.isEmpty()) {
            surely = sets.stream().reduce((a, b) -> a & b).get();
            ask = -1;
            int best = Integer.MAX_VALUE;
            for (int p = 0; p < s.n(); p++) {
                int bit = 1 << p;
                int in = (int) sets.stream().filter(set -> (set & bit) != 0).count();
                int off = Math.abs(in - (sets.size() - in));
                if (off < best) {
                    best = off;
                    ask = p;
                }
            }
        }
        return sets.size();
    }

    int surely() {
        return surely;
    }

    int ask() {
        return ask;
    }

    int share(int d, int set, int p) {
        if (!dish(d) || !person(p) || set < 0 || set >= 1 << s.n() || (set >> p & 1) == 0) {
            return -1;
        }
        List<Integer> some = new ArrayList<>();
        int all = 0;
        for (int q = 0; q < s.n(); q++) {
            if ((set >> q & 1) == 1) {
                some.add(q);
                all += s.wants.get(q);
            }
        }
        if (all == 0) {
            return 0;
        }
        int total = all;
        int parts = s.parts.get(d);
        Map<Integer, Integer> has = new HashMap<>();
        int left = parts;
        for (int q : some) {
            has.put(q, parts * s.wants.get(q) / total);
            left -= has.get(q);
        }
        some.sort((a, b) -> Integer.compare(parts * s.wants.get(b) % total, parts * s.wants.get(a) % total));
        for (int i = 0; i < left; i++) {
            has.merge(some.get(i), 1, Integer::sum);
        }
        return has.get(p);
    }

    int last(int d) {
        if (!dish(d)) {
            return -1;
        }
        int parts = s.parts.get(d);
        int[] take = new int[Math.max(parts + 1, 2)];
        for (int n = 2; n <= parts; n++) {
            for (int t = 3; t >= 1; t--) {
                // the other one finds at least 1, and can't win
                if (n - t >= 1 && take[n - t] == 0) {
                    take[n] = t;
                }
            }
        }
        return take[parts];
    }

    int seats() {
        int best = -1;
        for (List<Integer> row : rows(s.living())) {
            int pairs = 0;
            for (int i = 1; i < row.size(); i++) {
                pairs += s.parent.get(row.get(i)).equals(row.get(i - 1)) ? 1 : 0;
            }
            if (pairs > best) {
                best = pairs;
                seats = row;
            }
        }
        return best;
    }

    int seatAt(int k) {
        return k >= 0 && k < seats.size() ? seats.get(k) : -1;
    }

    int left(int p) {
        String text = emptied();
        if (!person(p) || text.isEmpty() || text.length() > 7 || !text.chars().allMatch(this::person)) {
            return -1;
        }
        State t = s.copy();
        text.chars().forEach(t::die);
        return t.all(p);
    }

    int kin(int p, int q) {
        if (!person(p) || !person(q)) {
            return -1;
        }
        int far = 1000;
        int[][] steps = new int[7][7];
        for (int a = 0; a < s.n(); a++) {
            for (int b = 0; b < s.n(); b++) {
                steps[a][b] = a == b ? 0 : s.parent.get(a) == b || s.parent.get(b) == a ? 1 : far;
            }
        }
        for (int k = 0; k < s.n(); k++) {
            for (int a = 0; a < s.n(); a++) {
                for (int b = 0; b < s.n(); b++) {
                    steps[a][b] = Math.min(steps[a][b], steps[a][k] + steps[k][b]);
                }
            }
        }
        return steps[p][q] >= far ? -1 : steps[p][q];
    }

    int hungriest() {
        return s.living().stream().reduce((a, b) -> s.hunger[b] > s.hunger[a] ? b : a).orElse(-1);
    }

    int will(int p) {
        if (!person(p)) {
            return -1;
        }
        String to = s.heir(p) < 0 ? "nobody" : s.persons.get(s.heir(p));
        will = s.persons.get(p) + " leaves " + (s.all(p) == 0 ? "nothing" : s.all(p) + " to " + to);
        return will.length();
    }

    int byteAt(int i) {
        return i >= 0 && i < will.length() ? will.charAt(i) : -1;
    }

    int drawn(int n, int seed) {
        if (n < 1 || n > 60 || s.n() == 0) {
            return -1;
        }
        State after = s.copy();
        int went = after.drawn(n, seed);
        if (went > 0) {
            keep(after);
        }
        return went;
    }

    int odds(int p, int n, int seed) {
        if (!person(p) || n < 1 || n > 30) {
            return -1;
        }
        int lived = 0;
        for (int i = 0; i < n; i++) {
            State t = s.copy();
            t.drawn(10, seed + i);
            lived += t.dead[p] ? 0 : 1;
        }
        return lived;
    }

    private record Line(String act, int p, int d, int n) {
        int live(State t) {
            return switch (act) {
                case "eats" -> t.eat(p, d, n);
                case "served" -> more(10, t.serve(p, d, n));
                case "rises" -> more(20, t.rise(p));
                case "refuses" -> more(30, t.refuse(p, true));
                case "accepts" -> more(40, t.refuse(p, false));
                case "dies" -> more(50, t.die(p));
                default -> meals(t);
            };
        }

        int meals(State t) {
            if (t.meal + n > 200) {
                return 61;
            }
            for (int i = 0; i < n; i++) {
                t.mealGoes();
            }
            return 0;
        }

        static int more(int tens, int why) {
            return why == 0 ? 0 : tens + why;
        }
    }

    private Line bookLine(Text text, int before) {
        int place = text.peek().place;
        int p = text.is("meal") ? -1 : text.name(s.persons);
        if (before == 40) {
            throw new Fault(4, place);
        }
        Token act = text.peek();
        if (p >= 0 && !List.of("eats", "served", "rises", "refuses", "accepts", "dies").contains(act.text)) {
            throw new Fault(1, act.place);
        }
        text.take();
        boolean withDish = act.text.equals("eats") || act.text.equals("served");
        int d = withDish ? text.name(s.dishes) : -1;
        int most = Map.of("eats", 20, "served", 40, "meal", 60).getOrDefault(act.text, 0);
        int n = most > 0 ? text.number(1, most) : 0;
        text.expect(";");
        return new Line(act.text, p, d, n);
    }

    int book(int lives) {
        if (lives != 0 && lives != 1) {
            return -1000;
        }
        Text text = new Text(emptied(), 400);
        List<Line> lines = new ArrayList<>();
        try {
            while (!text.atEnd()) {
                lines.add(bookLine(text, lines.size()));
            }
        } catch (Fault f) {
            fault = f.kind;
            return -2 - f.place;
        }
        fault = 0;
        State t = s.copy();
        int why = 0;
        int good = 0;
        for (Line line : lines) {
            why = line.live(t);
            if (why != 0) {
                break;
            }
            good++;
        }
        told = new int[] {why, good, t.meal, bits(t.dead)};
        if (lives == 1) {
            keep(t);
        }
        return why == 0 ? -1 : good;
    }

    int told(int what) {
        return told == null || what < 0 || what > 3 ? -1 : told[what];
    }

    int sentence() {
        Text text = new Text(emptied(), 200);
        ones = 0;
        try {
            BiPredicate<State, Integer> cond = cond(text, 1);
            if (!text.atEnd()) {
                throw new Fault(1, text.peek().place);
            }
            saying = cond;
        } catch (Fault f) {
            fault = f.kind;
            return -1 - f.place;
        }
        fault = 0;
        return ones;
    }

    private BiPredicate<State, Integer> cond(Text text, int depth) {
        BiPredicate<State, Integer> all = all(text, depth);
        while (text.is("or")) {
            text.take();
            all = all.or(all(text, depth));
        }
        return all;
    }

    private BiPredicate<State, Integer> all(Text text, int depth) {
        BiPredicate<State, Integer> one = one(text, depth);
        while (text.is("and")) {
            text.take();
            one = one.and(one(text, depth));
        }
        return one;
    }

    private BiPredicate<State, Integer> one(Text text, int depth) {
        Token first = text.take();
        if (!List.of("not", "(", "dead", "refused", "clean", "of", "has", "wants", "eaten", "hunger", "number")
                .contains(first.text)) {
            throw new Fault(1, first.place);
        }
        ones++;
        if (ones == 21 || depth == 9) {
            throw new Fault(4, first.place);
        }
        switch (first.text) {
            case "not":
                return one(text, depth + 1).negate();
            case "(":
                BiPredicate<State, Integer> cond = cond(text, depth + 1);
                text.expect(")");
                return cond;
            case "dead":
                return (t, p) -> t.dead[p];
            case "refused":
                return (t, p) -> t.refuses[p];
            case "clean":
                return (t, p) -> t.all(p) == 0;
            case "of":
                int parent = text.name(s.persons);
                return (t, p) -> t.parent.get(p) == parent;
            case "has":
                int d = text.name(s.dishes);
                return (t, p) -> t.plate(p, d) > 0;
            default:
                break;
        }
        Token sign = text.take();
        if (!List.of("<", "=", ">").contains(sign.text)) {
            throw new Fault(1, sign.place);
        }
        int n = text.number(0, 999);
        return (t, p) -> {
            int value = switch (first.text) {
                case "wants" -> t.wants.get(p);
                case "eaten" -> t.eaten[p];
                case "hunger" -> t.hunger[p];
                default -> p;
            };
            return sign.text.equals("<") ? value < n : sign.text.equals(">") ? value > n : value == n;
        };
    }

    int said(int k) {
        if (saying == null) {
            return -1;
        }
        List<Integer> those = new ArrayList<>();
        for (int p = 0; p < s.n(); p++) {
            if (saying.test(s, p)) {
                those.add(p);
            }
        }
        return k == -1 ? those.size() : k >= 0 && k < those.size() ? those.get(k) : -1;
    }

    boolean image(int k) {
        if (k != 0 && k != 1) {
            return false;
        }
        images[k] = s.copy();
        sayings.set(k, saying);
        return true;
    }

    boolean restore(int k) {
        if (k != 0 && k != 1 || images[k] == null) {
            return false;
        }
        s = images[k].copy();
        saying = sayings.get(k);
        past.clear();
        return true;
    }

    int count(int what) {
        return switch (what) {
            case 0 -> s.n();
            case 1 -> s.dishes.size();
            case 2 -> List.of("next", "child", "least").indexOf(s.law);
            case 3 -> s.dogs;
            case 4 -> tape.length();
            default -> -1;
        };
    }
}
