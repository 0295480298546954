import java.util.ArrayList;
import java.util.HashMap;
import java.util.List;
import java.util.Map;

/**
 * The document told a second time, as plainly as can be and without a thought for speed or room: what
 * ModelTest holds PaperRiver against.
 */
final class Model {
    interface Sum {
        long of(Map<String, Long> words);
    }

    interface Fact {
        boolean of(Map<String, Long> words);
    }

    static final class Fault extends RuntimeException {
        private static final long serialVersionUID = 1L;
        final int code;

        Fault(int place, int kind) {
            code = 1 + 8 * place + kind;
        }
    }

    static final class Scrap {
        int cell;
        String text = "";
        int wait;
        int fate;
        int holder = -1;
        int left = -1;

        Scrap copy() {
            Scrap s = new Scrap();
            s.cell = cell;
            s.text = text;
            s.wait = wait;
            s.fate = fate;
            s.holder = holder;
            s.left = left;
            return s;
        }
    }

    /** All of a river: a copy is made for whatever is tried. */
    static final class State {
        int cells;
        int day;
        int[] flow = new int[0];
        int[] eddy = new int[0];
        int[] mesh = new int[0];
        List<Integer> millCells = new ArrayList<>();
        List<Integer> millLetters = new ArrayList<>();
        List<Integer> printed = new ArrayList<>();
        List<Integer> damCells = new ArrayList<>();
        List<Boolean> damOpen = new ArrayList<>();
        List<Scrap> scraps = new ArrayList<>();

        State copy() {
            State s = new State();
            s.cells = cells;
            s.day = day;
            s.flow = flow.clone();
            s.eddy = eddy.clone();
            s.mesh = mesh.clone();
            s.millCells = new ArrayList<>(millCells);
            s.millLetters = new ArrayList<>(millLetters);
            s.printed = new ArrayList<>(printed);
            s.damCells = new ArrayList<>(damCells);
            s.damOpen = new ArrayList<>(damOpen);
            for (Scrap scrap : scraps) {
                s.scraps.add(scrap.copy());
            }
            return s;
        }

        int nets() {
            int many = 0;
            for (int m : mesh) {
                many += m > 0 ? 1 : 0;
            }
            return many;
        }

        Scrap drop(int cell, String text) {
            Scrap s = new Scrap();
            s.cell = cell;
            s.text = text;
            scraps.add(s);
            return s;
        }

        void leave(Scrap s, int fate, int holder) {
            s.cell = -1;
            s.wait = 0;
            s.fate = fate;
            s.holder = holder;
            s.left = day;
        }

        boolean shut(int cell) {
            int dam = damCells.indexOf(cell);
            return dam >= 0 && !damOpen.get(dam);
        }

        void pass(List<Fact> law) {
            for (Scrap s : scraps) {
                if (s.cell < 0 || shut(s.cell)) {
                    continue;
                }
                if (s.wait > 0) {
                    s.wait--;
                } else if (flow[s.cell] < 0) {
                    leave(s, 1, -1);
                } else {
                    s.cell = flow[s.cell];
                    s.wait = eddy[s.cell];
                    int mill = millCells.indexOf(s.cell);
                    if (mill >= 0 && s.text.length() < 8) {
                        s.text += millLetters.get(mill);
                        printed.set(mill, printed.get(mill) + 1);
                    }
                }
            }
            for (int cell = 0; cell < cells; cell++) {
                while (joinOne(cell, law)) {
                    continue;
                }
            }
            for (Scrap s : scraps) {
                if (s.cell >= 0 && mesh[s.cell] > 0 && s.text.length() >= mesh[s.cell]) {
                    leave(s, 2, s.cell);
                }
            }
            day = Math.min(999, day + 1);
        }

        boolean joinOne(int cell, List<Fact> law) {
            for (int i = 0; i < scraps.size(); i++) {
                for (int j = i + 1; j < scraps.size(); j++) {
                    Scrap one = scraps.get(i);
                    Scrap later = scraps.get(j);
                    if (one.cell == cell && later.cell == cell && one.text.length() + later.text.length() <= 8
                            && allowed(i, j, law)) {
                        one.text += later.text;
                        leave(later, 3, i);
                        return true;
                    }
                }
            }
            return false;
        }

        boolean allowed(int i, int j, List<Fact> law) {
            Scrap one = scraps.get(i);
            Scrap later = scraps.get(j);
            long last = one.text.charAt(one.text.length() - 1) - '0';
            long first = later.text.charAt(0) - '0';
            if (law == null) {
                return last == first;
            }
            long same = 0;
            for (char c = '1'; c <= '6'; c++) {
                same += one.text.indexOf(c) >= 0 && later.text.indexOf(c) >= 0 ? 1 : 0;
            }
            long many = scraps.stream().filter(s -> s.cell == one.cell).count();
            Map<String, Long> words = new HashMap<>();
            words.put("long", (long) one.text.length());
            words.put("other", (long) later.text.length());
            words.put("last", last);
            words.put("first", first);
            words.put("same", same);
            words.put("cell", (long) one.cell);
            words.put("day", (long) day);
            words.put("one", (long) i);
            words.put("later", (long) j);
            words.put("many", many);
            words.put("wait", (long) one.wait);
            return law.stream().anyMatch(fact -> fact.of(words));
        }

        int fateInTheEnd(int scrap) {
            Scrap s = scraps.get(scrap);
            return s.fate == 3 ? fateInTheEnd(s.holder) : s.fate;
        }

        int inSea() {
            return (int) scraps.stream().filter(s -> s.fate == 1).count();
        }

        int onRiver() {
            int bits = 0;
            for (int i = 0; i < scraps.size(); i++) {
                bits |= scraps.get(i).cell >= 0 ? 1 << i : 0;
            }
            return bits;
        }
    }

    /** Reads a text; each method begins behind what is read already. */
    static final class Reader {
        final String text;
        int at;
        int pieces;

        Reader(String text) {
            this.text = text;
        }

        int skip() {
            while (at < text.length() && text.charAt(at) == ' ') {
                at++;
            }
            return at;
        }

        char next() {
            skip();
            return at < text.length() ? text.charAt(at) : '\uffff';
        }

        String run(char low, char high) {
            skip();
            int from = at;
            while (at < text.length() && text.charAt(at) >= low && text.charAt(at) <= high) {
                at++;
            }
            return text.substring(from, at);
        }

        String word() {
            int from = skip();
            String word = run('a', 'z');
            if (word.isEmpty()) {
                throw new Fault(from, 0);
            }
            return word;
        }

        int number(int low, int high) {
            int from = skip();
            String digits = run('0', '9');
            if (digits.isEmpty()) {
                throw new Fault(from, 0);
            }
            if (digits.length() > 5 || Integer.parseInt(digits) < low || Integer.parseInt(digits) > high) {
                throw new Fault(from, 1);
            }
            return Integer.parseInt(digits);
        }

        String letters(int most) {
            int from = skip();
            String word = word();
            StringBuilder digits = new StringBuilder();
            for (int i = 0; i < word.length(); i++) {
                if (i >= most || word.charAt(i) > 'f') {
                    throw new Fault(from + i, 0);
                }
                digits.append((char) (word.charAt(i) - 'a' + '1'));
            }
            return digits.toString();
        }

        boolean another() {
            if (skip() == text.length()) {
                return false;
            }
            if (text.charAt(at) != ';') {
                throw new Fault(at, 0);
            }
            at++;
            return true;
        }

        State river() {
            State s = new State();
            int clauses = 0;
            do {
                clause(s, clauses++);
            } while (another());
            return s;
        }

        int freeCell(State s, boolean taken, int cell, int place) {
            if (taken) {
                throw new Fault(place, 1);
            }
            return cell;
        }

        void clause(State s, int clauses) {
            int place = skip();
            String word = word();
            if (!List.of("river", "flow", "mouth", "eddy", "mill", "dam", "net", "scrap").contains(word)) {
                throw new Fault(place, 0);
            }
            if (clauses == 40 || word.equals("river") != (clauses == 0)) {
                throw new Fault(place, 4);
            }
            if (word.equals("river")) {
                s.cells = number(2, 16);
                s.flow = new int[s.cells];
                s.eddy = new int[s.cells];
                s.mesh = new int[s.cells];
                for (int i = 0; i < s.cells; i++) {
                    s.flow[i] = i == s.cells - 1 ? -1 : i + 1;
                }
                return;
            }
            if (word.equals("mill") && s.millCells.size() == 6 || word.equals("dam") && s.damCells.size() == 4
                    || word.equals("net") && s.nets() == 5 || word.equals("scrap") && s.scraps.size() == 10) {
                throw new Fault(place, 4);
            }
            int numberPlace = skip();
            int cell = number(0, s.cells - 1);
            switch (word) {
                case "flow" -> {
                    int second = skip();
                    int into = number(0, s.cells - 1);
                    s.flow[cell] = freeCell(s, into == cell, into, second);
                }
                case "mouth" -> s.flow[cell] = -1;
                case "eddy" -> s.eddy[cell] = number(1, 9);
                case "mill" -> {
                    s.millCells.add(freeCell(s, s.millCells.contains(cell), cell, numberPlace));
                    s.millLetters.add(Integer.parseInt(letters(1)));
                    s.printed.add(0);
                }
                case "dam" -> {
                    s.damCells.add(freeCell(s, s.damCells.contains(cell), cell, numberPlace));
                    s.damOpen.add(true);
                }
                case "net" -> s.mesh[freeCell(s, s.mesh[cell] > 0, cell, numberPlace)] = number(1, 8);
                default -> s.drop(cell, letters(8));
            }
        }

        List<Fact> rule() {
            List<Fact> tests = new ArrayList<>();
            do {
                int place = skip();
                if (!word().equals("join")) {
                    throw new Fault(place, 0);
                }
                if (tests.size() == 12) {
                    throw new Fault(place, 4);
                }
                tests.add(test(0));
            } while (another());
            return tests;
        }

        boolean takes(String word) {
            int from = skip();
            if (run('a', 'z').equals(word)) {
                return true;
            }
            at = from;
            return false;
        }

        Fact test(int depth) {
            Fact left = part(depth);
            while (takes("or")) {
                Fact a = left;
                Fact b = part(depth);
                left = words -> a.of(words) || b.of(words);
            }
            return left;
        }

        Fact part(int depth) {
            Fact left = fact(depth);
            while (takes("and")) {
                Fact a = left;
                Fact b = fact(depth);
                left = words -> a.of(words) && b.of(words);
            }
            return left;
        }

        Fact fact(int depth) {
            int place = skip();
            boolean bracket = next() == '[';
            if (bracket || takes("not")) {
                if (depth == 10) {
                    throw new Fault(place, 2);
                }
                if (!bracket) {
                    Fact inner = fact(depth + 1);
                    return words -> !inner.of(words);
                }
                at++;
                Fact inner = test(depth + 1);
                if (next() != ']') {
                    throw new Fault(at, 0);
                }
                at++;
                return inner;
            }
            Sum a = sum();
            int signPlace = skip();
            String sign = "";
            for (String s : List.of("<=", ">=", "<", "=", ">")) {
                sign = sign.isEmpty() && text.startsWith(s, signPlace) ? s : sign;
            }
            if (sign.isEmpty()) {
                throw new Fault(signPlace, 0);
            }
            piece(signPlace);
            at += sign.length();
            Sum b = sum();
            String told = sign;
            return words -> compare(told, Long.compare(a.of(words), b.of(words)));
        }

        static boolean compare(String sign, int way) {
            return switch (sign) {
                case "<" -> way < 0;
                case "<=" -> way <= 0;
                case "=" -> way == 0;
                case ">=" -> way >= 0;
                default -> way > 0;
            };
        }

        void piece(int place) {
            if (pieces++ >= 60) {
                throw new Fault(place, 3);
            }
        }

        Sum sum() {
            Sum left = term();
            while (next() == '+' || next() == '-') {
                boolean plus = text.charAt(at++) == '+';
                Sum a = left;
                Sum b = term();
                left = words -> plus ? a.of(words) + b.of(words) : a.of(words) - b.of(words);
            }
            return left;
        }

        Sum term() {
            Sum left = value();
            while (next() == '*' || next() == '/' || next() == '%') {
                char sign = text.charAt(at++);
                Sum a = left;
                Sum b = value();
                left = words -> times(sign, a.of(words), b.of(words));
            }
            return left;
        }

        static long times(char sign, long a, long b) {
            if (sign == '*') {
                return a * b;
            }
            if (b == 0) {
                return 0;
            }
            return sign == '/' ? a / b : a % b;
        }

        Sum value() {
            int place = skip();
            if (next() >= '0' && next() <= '9') {
                long number = number(0, 99999);
                piece(place);
                return words -> number;
            }
            String word = word();
            if (!List.of("long", "other", "last", "first", "same", "cell", "day", "one", "later", "many", "wait")
                    .contains(word)) {
                throw new Fault(place, 0);
            }
            piece(place);
            return words -> words.get(word);
        }
    }

    /** What an image holds. */
    static final class World {
        State state = new State();
        List<State> past = new ArrayList<>();
        int force = -1;
        int x;

        World copy() {
            World w = new World();
            w.state = state.copy();
            for (State s : past) {
                w.past.add(s.copy());
            }
            w.force = force;
            w.x = x;
            return w;
        }
    }

    private final StringBuilder tape = new StringBuilder();
    private final List<List<Fact>> rules = new ArrayList<>();
    private World now = new World();
    private final World[] images = new World[4];

    private List<Fact> law() {
        return now.force < 0 ? null : rules.get(now.force);
    }

    private State after(State from, int days) {
        State s = from.copy();
        for (int i = 0; i < days; i++) {
            s.pass(law());
        }
        return s;
    }

    private boolean isCell(int cell) {
        return cell >= 0 && cell < now.state.cells;
    }

    private boolean isScrap(int scrap) {
        return scrap >= 0 && scrap < now.state.scraps.size();
    }

    private static boolean isText(int text) {
        return Integer.toString(text).matches("[1-6]{1,8}");
    }

    private static int number(String text) {
        return Integer.parseInt(text);
    }

    private void act() {
        now.past.add(now.state.copy());
        if (now.past.size() > 20) {
            now.past.remove(0);
        }
    }

    int feed(int a, int b, int c, int d, int e) {
        if (tape.length() + 20 > 400) {
            return -1;
        }
        for (int n : new int[] {a, b, c, d, e}) {
            for (int shift = 24; shift >= 0; shift -= 8) {
                tape.append((char) (n >> shift & 255));
            }
        }
        return tape.length();
    }

    int end(int n) {
        if (n < 0 || n > tape.length()) {
            return -1;
        }
        tape.setLength(n);
        return n;
    }

    int river() {
        String text = tape.toString();
        tape.setLength(0);
        try {
            now.state = new Reader(text).river();
        } catch (Fault fault) {
            return -2 - fault.code;
        }
        now.past.clear();
        return now.state.scraps.size();
    }

    int rule() {
        if (rules.size() == 6) {
            return -1;
        }
        String text = tape.toString();
        tape.setLength(0);
        try {
            rules.add(new Reader(text).rule());
        } catch (Fault fault) {
            return -2 - fault.code;
        }
        return rules.size() - 1;
    }

    int force(int rule) {
        if (rule < -1 || rule >= rules.size()) {
            return -2;
        }
        int was = now.force;
        now.force = rule;
        return was;
    }

    int cell(int cell, int what) {
        State s = now.state;
        if (!isCell(cell) || what < 0 || what > 5) {
            return -2;
        }
        int mill = s.millCells.indexOf(cell);
        int dam = s.damCells.indexOf(cell);
        int bits = 0;
        for (int i = 0; i < s.scraps.size(); i++) {
            bits += s.scraps.get(i).cell == cell ? 1 << i : 0;
        }
        return new int[] {s.flow[cell], s.eddy[cell], mill < 0 ? 0 : s.millLetters.get(mill),
            dam < 0 ? 0 : s.damOpen.get(dam) ? 1 : 2, s.mesh[cell], bits}[what];
    }

    int scrap(int scrap, int what) {
        if (!isScrap(scrap) || what < 0 || what > 5) {
            return -2;
        }
        Scrap s = now.state.scraps.get(scrap);
        return new int[] {s.cell, number(s.text), s.wait, s.fate, s.holder, s.left}[what];
    }

    int day() {
        if (now.state.cells == 0 || now.state.day == 999) {
            return -1;
        }
        act();
        int before = Integer.bitCount(now.state.onRiver());
        now.state.pass(law());
        return before - Integer.bitCount(now.state.onRiver());
    }

    int drop(int cell, int text) {
        if (!isCell(cell) || !isText(text) || now.state.scraps.size() == 12) {
            return -1;
        }
        act();
        now.state.drop(cell, Integer.toString(text));
        return now.state.scraps.size() - 1;
    }

    int tear(int scrap) {
        if (!isScrap(scrap) || now.state.scraps.size() == 12) {
            return -1;
        }
        String text = now.state.scraps.get(scrap).text;
        if (now.state.scraps.get(scrap).cell < 0 || text.length() < 2) {
            return -1;
        }
        act();
        Scrap s = now.state.scraps.get(scrap);
        Scrap torn = now.state.drop(s.cell, text.substring(text.length() / 2));
        torn.wait = s.wait;
        s.text = text.substring(0, text.length() / 2);
        return now.state.scraps.size() - 1;
    }

    boolean dam(int cell, boolean open) {
        int dam = now.state.damCells.indexOf(cell);
        if (dam < 0 || now.state.damOpen.get(dam) == open) {
            return false;
        }
        act();
        now.state.damOpen.set(dam, open);
        return true;
    }

    int net(int cell, int mesh) {
        if (!isCell(cell) || mesh < 0 || mesh > 8 || now.state.mesh[cell] == mesh) {
            return -1;
        }
        int was = now.state.mesh[cell];
        if (was == 0 && now.state.nets() == 5) {
            return -1;
        }
        act();
        now.state.mesh[cell] = mesh;
        return was;
    }

    int undo() {
        if (now.past.isEmpty()) {
            return -2;
        }
        now.state = now.past.remove(now.past.size() - 1);
        return now.past.size();
    }

    int ahead(int scrap, int n, int what) {
        if (!isScrap(scrap) || n < 0 || n > 60 || what < 0 || what > 2) {
            return -2;
        }
        Scrap s = after(now.state, n).scraps.get(scrap);
        return new int[] {s.cell, number(s.text), s.fate}[what];
    }

    int mouth(int k, int what) {
        if (now.state.cells == 0 || k < 0 || what < 0 || what > 2) {
            return -1;
        }
        List<int[]> arrivals = new ArrayList<>();
        State s = now.state.copy();
        for (int day = 0; day < 60; day++) {
            int before = s.onRiver();
            int date = s.day;
            s.pass(law());
            for (int i = 0; i < s.scraps.size(); i++) {
                if ((before >> i & 1) == 1 && s.scraps.get(i).fate == 1) {
                    arrivals.add(new int[] {i, date, number(s.scraps.get(i).text)});
                }
            }
        }
        return k < arrivals.size() ? arrivals.get(k)[what] : -2;
    }

    int fleet(int scraps, int what) {
        if (now.state.cells == 0 || what < 0 || what > 1 || (scraps | now.state.onRiver()) != now.state.onRiver()) {
            return -1;
        }
        for (int size = 0; size <= 3; size++) {
            for (int set = 0; set < 1 << now.state.cells; set++) {
                if (Integer.bitCount(set) == size && gets(set, scraps)) {
                    return what == 0 ? size : set;
                }
            }
        }
        return -2;
    }

    private boolean gets(int set, int scraps) {
        State s = now.state.copy();
        for (int cell = 0; cell < s.cells; cell++) {
            if ((set >> cell & 1) == 1) {
                if (s.mesh[cell] > 0) {
                    return false;
                }
                s.mesh[cell] = 1;
            }
        }
        s = after(s, 60);
        for (int i = 0; i < s.scraps.size(); i++) {
            if ((scraps >> i & 1) == 1 && s.fateInTheEnd(i) != 2) {
                return false;
            }
        }
        return true;
    }

    int put(int text, int cell, int n, int what) {
        if (!isCell(cell) || !isText(text) || n < 1 || n > 60 || what < 0 || what > 1) {
            return -1;
        }
        List<Integer> found = new ArrayList<>();
        for (int from = 0; from < now.state.cells; from++) {
            State s = now.state.copy();
            s.drop(from, Integer.toString(text));
            if (after(s, n).scraps.get(s.scraps.size() - 1).cell == cell) {
                found.add(from);
            }
        }
        return what == 0 ? found.size() : found.isEmpty() ? -2 : found.get(0);
    }

    int rows(int scraps, int what) {
        if (now.state.cells == 0 || what < 0 || what > 12 || scraps >> now.state.scraps.size() != 0
                || Integer.bitCount(scraps) > 8) {
            return -1;
        }
        List<List<Integer>> found = new ArrayList<>();
        order(scraps, new ArrayList<>(), found);
        if (what == 0) {
            return found.size();
        }
        return found.isEmpty() || what > found.get(0).size() ? -2 : found.get(0).get(what - 1);
    }

    private void order(int rest, List<Integer> laid, List<List<Integer>> found) {
        if (rest == 0) {
            found.add(new ArrayList<>(laid));
        }
        for (int i = 0; i < 12; i++) {
            if ((rest >> i & 1) == 1) {
                String last = laid.isEmpty() ? null : now.state.scraps.get(laid.get(laid.size() - 1)).text;
                if (last == null || last.endsWith(now.state.scraps.get(i).text.substring(0, 1))) {
                    laid.add(i);
                    order(rest & ~(1 << i), laid, found);
                    laid.remove(laid.size() - 1);
                }
            }
        }
    }

    /** Every way of dropping the text's beginning is tried on an empty river without nets. */
    int seen(int text, int cell, int what) {
        if (!isCell(cell) || !isText(text) || what < 0 || what > 2) {
            return -1;
        }
        String whole = Integer.toString(text);
        List<int[]> found = new ArrayList<>();
        for (int days = 0; days <= 20; days++) {
            for (int from = 0; from < now.state.cells; from++) {
                boolean can = false;
                for (int letters = 1; letters <= whole.length(); letters++) {
                    State s = now.state.copy();
                    s.scraps.clear();
                    s.mesh = new int[s.cells];
                    s.drop(from, whole.substring(0, letters));
                    Scrap then = after(s, days).scraps.get(0);
                    can |= then.cell == cell && then.text.equals(whole);
                }
                if (can) {
                    found.add(new int[] {from, days});
                }
            }
        }
        return what == 0 ? found.size() : found.isEmpty() ? -2 : found.get(0)[what - 1];
    }

    int gates(int n, int what) {
        if (now.state.cells == 0 || n < 1 || n > 60 || what < 0 || what > 1) {
            return -1;
        }
        int most = -1;
        int best = 0;
        for (int set = 0; set < 1 << now.state.damCells.size(); set++) {
            State s = now.state.copy();
            for (int dam = 0; dam < s.damOpen.size(); dam++) {
                s.damOpen.set(dam, (set >> dam & 1) == 1);
            }
            int many = after(s, n).inSea();
            if (many > most) {
                most = many;
                best = set;
            }
        }
        return what == 0 ? best : most;
    }

    int round(int cell, int what) {
        if (!isCell(cell) || what < 0 || what > 1) {
            return -1;
        }
        List<Integer> way = new ArrayList<>();
        int at = cell;
        while (at >= 0 && !way.contains(at)) {
            way.add(at);
            at = now.state.flow[at];
        }
        int first = at < 0 ? way.size() : way.indexOf(at);
        return what == 0 ? way.size() - first : first;
    }

    int share(int mill, int part) {
        if (mill < 0 || mill >= now.state.millCells.size() || part < 0 || part > 1) {
            return -1;
        }
        int above = now.state.printed.get(mill);
        int below = count(9);
        for (int d = below; d > 1; d--) {
            if (above % d == 0 && below % d == 0) {
                above /= d;
                below /= d;
            }
        }
        return part == 0 ? above : Math.max(1, below);
    }

    int seed(int x) {
        if (x < 0) {
            return -1;
        }
        int was = now.x;
        now.x = x;
        return was;
    }

    int years(int m, int n, int what) {
        if (now.state.cells == 0 || m < 1 || m > 10 || n < 1 || n > 60 || what < 0 || what > 2) {
            return -1;
        }
        long x = now.x;
        int many = 0;
        for (int time = 0; time < m; time++) {
            State s = now.state.copy();
            for (int day = 0; day < n; day++) {
                x = (x * 1103515245L + 12345) % 2147483648L;
                int cell = (int) (x / 65536 % s.cells);
                x = (x * 1103515245L + 12345) % 2147483648L;
                String letter = Long.toString(x / 65536 % 6 + 1);
                if (s.scraps.size() < 12) {
                    s.drop(cell, letter);
                }
                s = after(s, 1);
            }
            many += fates(s, what + 1) - fates(now.state, what + 1);
        }
        return many;
    }

    private static int fates(State s, int fate) {
        return (int) s.scraps.stream().filter(scrap -> scrap.fate == fate).count();
    }

    int count(int what) {
        State s = now.state;
        if (what < 0 || what > 12) {
            return -1;
        }
        return new int[] {s.cells, s.millCells.size(), s.damCells.size(), s.nets(), s.scraps.size(), rules.size(),
            now.force, s.day, s.onRiver(), s.printed.stream().mapToInt(i -> i).sum(), now.past.size(), now.x,
            tape.length()}[what];
    }

    int image(int k) {
        if (k < 0 || k > 3) {
            return -1;
        }
        images[k] = now.copy();
        return now.state.day;
    }

    int back(int k) {
        if (k < 0 || k > 3 || images[k] == null) {
            return -1;
        }
        now = images[k].copy();
        return now.state.day;
    }
}
