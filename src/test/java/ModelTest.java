import java.util.ArrayList;
import java.util.Arrays;
import java.util.List;
import java.util.Random;

/** Long runs of drawn calls: RookHouse against a second writing of the document that is as plain and slow as can be. */
public final class ModelTest {
    static final class Broken extends RuntimeException {
        Broken() {
            super(null, null, false, false);
        }
    }

    static final class Fault extends RuntimeException {
        final int place;

        Fault(int place) {
            super(null, null, false, false);
            this.place = place;
        }
    }

    interface Words {
        long word(String name, int number);
    }

    interface Sum {
        long of(Words w);
    }

    interface Test {
        boolean of(Words w);
    }

    static final class Clause {
        String verb;
        List<Sum> sums = new ArrayList<>();
        Test test;
        int times = 1;
    }

    /** Reads by exceptions and closures, where the class reads by steps. */
    static final class Parser {
        final List<String> tokens = new ArrayList<>();
        final List<Integer> places = new ArrayList<>();
        final boolean orders;
        int now = 0;
        int parts = 0;
        int open = 0;

        Parser(String text, boolean orders) {
            this.orders = orders;
            int i = 0;
            while (i < text.length()) {
                int from = i;
                if (text.charAt(i) == ' ') {
                    i++;
                    continue;
                }
                while (i < text.length() && text.charAt(i) >= 'a' && text.charAt(i) <= 'z') {
                    i++;
                }
                if (i == from) {
                    while (i < text.length() && text.charAt(i) >= '0' && text.charAt(i) <= '9') {
                        i++;
                    }
                }
                if (i == from) {
                    i++;
                }
                tokens.add(text.substring(from, i));
                places.add(from);
            }
            tokens.add("");
            places.add(text.length());
        }

        String peek() {
            return tokens.get(now);
        }

        Fault fault() {
            return new Fault(places.get(now));
        }

        boolean take(String token) {
            if (peek().equals(token)) {
                now++;
                return true;
            }
            return false;
        }

        void must(String token) {
            if (!take(token)) {
                throw fault();
            }
        }

        int number(int least, int most) {
            String t = peek();
            if (!t.matches("[0-9]+") || new java.math.BigInteger(t).compareTo(java.math.BigInteger.valueOf(most)) > 0
                    || Integer.parseInt(new java.math.BigInteger(t).toString()) < least) {
                throw fault();
            }
            now++;
            return new java.math.BigInteger(t).intValue();
        }

        List<Clause> text() {
            List<Clause> all = new ArrayList<>();
            do {
                if (all.size() == 12) {
                    throw fault();
                }
                all.add(clause());
            } while (take(";"));
            if (!peek().equals("")) {
                throw fault();
            }
            return all;
        }

        Clause clause() {
            Clause c = new Clause();
            c.verb = peek();
            List<String> verbs = orders ? List.of("put", "go", "sway", "pass") : List.of("speaks", "wants", "bars");
            if (!verbs.contains(c.verb)) {
                throw fault();
            }
            now++;
            if (!c.verb.equals("bars") && !c.verb.equals("pass")) {
                c.sums.add(sum());
            }
            if (c.verb.equals("sway")) {
                must("on");
                c.sums.add(sum());
                must("to");
                c.sums.add(sum());
            }
            if (orders && take("times")) {
                c.times = number(1, 20);
            }
            if (take("if")) {
                c.test = test();
            }
            return c;
        }

        Test test() {
            Test left = both();
            while (take("or")) {
                Test a = left;
                Test b = both();
                left = w -> a.of(w) || b.of(w);
            }
            return left;
        }

        Test both() {
            Test left = plain();
            while (take("and")) {
                Test a = left;
                Test b = plain();
                left = w -> a.of(w) && b.of(w);
            }
            return left;
        }

        void enter() {
            if (open == 8) {
                throw fault();
            }
            now++;
            open++;
        }

        Test plain() {
            if (take("not")) {
                Test inner = plain();
                return w -> !inner.of(w);
            }
            if (peek().equals("(")) {
                enter();
                Test inner = test();
                must(")");
                open--;
                return inner;
            }
            Sum a = sum();
            String sign = peek();
            if (!sign.equals("<") && !sign.equals(">") && !sign.equals("=")) {
                throw fault();
            }
            now++;
            Sum b = sum();
            return w -> {
                long x = a.of(w);
                long y = b.of(w);
                return sign.equals("<") ? x < y : sign.equals(">") ? x > y : x == y;
            };
        }

        static long held(long x) {
            if (Math.abs(x) > 1000000000L) {
                throw new Broken();
            }
            return x;
        }

        Sum sum() {
            Sum left = term();
            while (peek().equals("+") || peek().equals("-")) {
                boolean plus = tokens.get(now++).equals("+");
                Sum a = left;
                Sum b = term();
                left = w -> held(plus ? a.of(w) + b.of(w) : a.of(w) - b.of(w));
            }
            return left;
        }

        Sum term() {
            Sum left = part();
            while (peek().equals("*") || peek().equals("/") || peek().equals("%")) {
                String sign = tokens.get(now++);
                Sum a = left;
                Sum b = part();
                left = w -> {
                    long x = a.of(w);
                    long y = b.of(w);
                    if (sign.equals("*")) {
                        return held(x * y);
                    }
                    if (y == 0) {
                        throw new Broken();
                    }
                    long q = Math.abs(x) / Math.abs(y) * Long.signum(x) * Long.signum(y);
                    return sign.equals("/") ? q : x - q * y;
                };
            }
            return left;
        }

        Sum part() {
            if (peek().equals("[")) {
                enter();
                Sum inner = sum();
                must("]");
                open--;
                return inner;
            }
            if (parts == 50) {
                throw fault();
            }
            if (peek().matches("[0-9]+")) {
                int n = number(0, 1000);
                parts++;
                return w -> n;
            }
            String word = peek();
            List<String> words = orders ? List.of("day", "done", "latest", "here", "standing", "for", "voice")
                    : List.of("member", "voice", "side", "bill", "want", "stands", "here", "day", "mood");
            if (!words.contains(word)) {
                throw fault();
            }
            now++;
            parts++;
            int n = !orders ? 0 : word.equals("for") ? number(0, 4) : word.equals("voice") ? number(0, 6) : 0;
            return w -> w.word(word, n);
        }
    }

    static final class Rook {
        int voice;
        int side;
        boolean here = true;
        int[] want = new int[5];

        Rook(int voice, int side) {
            this.voice = voice;
            this.side = side;
        }

        Rook copy() {
            Rook r = new Rook(voice, side);
            r.here = here;
            r.want = want.clone();
            return r;
        }
    }

    static final class State {
        List<Rook> rooks = new ArrayList<>();
        boolean[] stands = new boolean[5];
        int[] term = {0, 1, 0, 0};
        List<int[]> seen = new ArrayList<>();
        List<List<Clause>> laws = new ArrayList<>();
        int force = -1;

        State copy() {
            State s = new State();
            for (Rook r : rooks) {
                s.rooks.add(r.copy());
            }
            s.stands = stands.clone();
            s.term = term.clone();
            s.seen = new ArrayList<>(seen);
            s.laws = new ArrayList<>(laws);
            s.force = force;
            return s;
        }

        int hereCount() {
            int n = 0;
            for (Rook r : rooks) {
                n += r.here ? 1 : 0;
            }
            return n;
        }

        int standBits() {
            int bits = 0;
            for (int b = 0; b < 5; b++) {
                bits |= stands[b] ? 1 << b : 0;
            }
            return bits;
        }

        boolean holds(Clause c, Words w) {
            try {
                boolean so = c.test == null || c.test.of(w);
                if (so && !c.sums.isEmpty()) {
                    c.sums.get(0).of(w);
                }
                return so;
            } catch (Broken e) {
                return false;
            }
        }

        Integer told(String verb, int m, int b) {
            Rook r = rooks.get(m);
            Words w = (name, n) -> {
                switch (name) {
                    case "member": return m;
                    case "voice": return r.voice;
                    case "side": return r.side;
                    case "bill": return b;
                    case "want": return r.want[b];
                    case "stands": return stands[b] ? 1 : 0;
                    case "here": return hereCount();
                    case "day": return term[0];
                    default: return term[2];
                }
            };
            Integer answer = null;
            if (force >= 0) {
                for (Clause c : laws.get(force)) {
                    if (c.verb.equals(verb) && holds(c, w)) {
                        answer = c.sums.isEmpty() ? 1 : (int) Math.max(0, Math.min(9, c.sums.get(0).of(w)));
                    }
                }
            }
            return answer;
        }

        int speaks(int m, int b) {
            Integer t = told("speaks", m, b);
            return t == null ? rooks.get(m).voice : t;
        }

        int values(int m, int b) {
            Integer t = told("wants", m, b);
            return t == null ? rooks.get(m).want[b] : t;
        }

        boolean barred(int m, int b) {
            return told("bars", m, b) != null;
        }

        boolean on(int m, int b) {
            return rooks.get(m).here && !barred(m, b);
        }

        boolean isFor(int m, int b) {
            return on(m, b) && values(m, b) >= 5;
        }

        int voicesFor(int b) {
            int v = 0;
            for (int m = 0; m < rooks.size(); m++) {
                v += isFor(m, b) ? speaks(m, b) : 0;
            }
            return v;
        }

        int voicesOn(int b) {
            int v = 0;
            for (int m = 0; m < rooks.size(); m++) {
                v += on(m, b) ? speaks(m, b) : 0;
            }
            return v;
        }

        int needed(int b) {
            return term[3] > 0 ? term[3] : voicesOn(b) / 2 + 1;
        }

        boolean carries(int b) {
            return voicesFor(b) >= needed(b);
        }

        int votes(int a, int b) {
            int v = 0;
            for (int m = 0; m < rooks.size(); m++) {
                v += on(m, a) && on(m, b) && values(m, a) > values(m, b) ? speaks(m, a) : 0;
            }
            return v;
        }

        boolean beats(int a, int b) {
            return votes(a, b) > votes(b, a);
        }

        int points(int b, int liar, int[] order) {
            int p = 0;
            for (int m = 0; m < rooks.size(); m++) {
                if (!on(m, b)) {
                    continue;
                }
                int rank = 0;
                for (int o = 0; o < 5; o++) {
                    rank += values(m, o) < values(m, b) ? 1 : 0;
                }
                for (int k = 0; m == liar && k < 5; k++) {
                    rank = order[k] == b ? 4 - k : rank;
                }
                p += rank * speaks(m, b);
            }
            return p;
        }

        int first(int liar, int[] order) {
            int best = 0;
            for (int b = 1; b < 5; b++) {
                best = points(b, liar, order) > points(best, liar, order) ? b : best;
            }
            return best;
        }

        boolean votesFor(int m, int a, int b) {
            return !barred(m, a) && !barred(m, b) && values(m, a) > values(m, b);
        }

        int canBe() {
            int bits = 0;
            for (int m = 0; m < rooks.size(); m++) {
                boolean so = true;
                for (int[] s : seen) {
                    so = so && votesFor(m, s[0], s[1]);
                }
                bits |= so ? 1 << m : 0;
            }
            return bits;
        }

        int put(int b) {
            if (b < 0 || b > 4) {
                return -1;
            }
            if (!carries(b)) {
                return -3;
            }
            int v = voicesFor(b);
            stands[b] = !stands[b];
            return v;
        }

        int go(int m) {
            if (m < 0 || m >= rooks.size()) {
                return -2;
            }
            rooks.get(m).here = !rooks.get(m).here;
            return rooks.get(m).here ? 1 : 0;
        }

        int sway(int m, int b, int want) {
            if (b < 0 || b > 4 || want < 0 || want > 9) {
                return -1;
            }
            if (m < 0 || m >= rooks.size()) {
                return -2;
            }
            int was = rooks.get(m).want[b];
            if (was == want) {
                return -3;
            }
            rooks.get(m).want[b] = want;
            return was;
        }

        int pass() {
            if (term[0] == 999) {
                return -3;
            }
            int came = rooks.size() - hereCount();
            for (Rook r : rooks) {
                r.here = true;
            }
            term[0]++;
            return came;
        }
    }

    static void orders(List<int[]> all, int[] row, int k) {
        if (k == row.length) {
            all.add(row.clone());
            return;
        }
        for (int b = 0; b < row.length; b++) {
            boolean used = false;
            for (int i = 0; i < k; i++) {
                used |= row[i] == b;
            }
            if (!used) {
                row[k] = b;
                orders(all, row, k + 1);
            }
        }
    }

    static List<int[]> ordersOf(int n) {
        List<int[]> all = new ArrayList<>();
        orders(all, new int[n], 0);
        return all;
    }

    static final List<int[]> BILL_ORDERS = ordersOf(5);

    static final class Model {
        State s = new State();
        String tape = "";
        int fault = -1;
        int stopped = -1;
        int feathers = 0;
        int status = 0;
        int[] refusals = new int[7];
        List<State> past = new ArrayList<>();
        List<Integer> deeds = new ArrayList<>();
        State[] images = new State[2];
        State paper = null;
        long luck;

        int refuse(int r) {
            status = r;
            refusals[-r]++;
            return r;
        }

        int fine(int a) {
            status = 0;
            return a;
        }

        int unforget(int a) {
            past.clear();
            deeds.clear();
            return fine(a);
        }

        boolean bad(int b) {
            return b < 0 || b > 4;
        }

        boolean noRook(int m) {
            return m < 0 || m >= s.rooks.size();
        }

        int member(int v, int side) {
            if (v < 1 || v > 9 || side < 0 || side > 3) {
                return refuse(-1);
            }
            if (s.rooks.size() == 7) {
                return refuse(-5);
            }
            s.rooks.add(new Rook(v, side));
            return unforget(s.rooks.size() - 1);
        }

        int of(int m, int what) {
            if (noRook(m) || what < 0 || what > 7) {
                return -1;
            }
            Rook r = s.rooks.get(m);
            return what == 0 ? r.voice : what == 1 ? r.side : what == 2 ? (r.here ? 1 : 0) : r.want[what - 3];
        }

        int asks(int m, int b, int what) {
            if (noRook(m) || bad(b) || what < 0 || what > 4) {
                return -1;
            }
            return what == 0 ? s.speaks(m, b) : what == 1 ? s.values(m, b)
                    : (what == 2 ? s.barred(m, b) : what == 3 ? s.on(m, b) : s.isFor(m, b)) ? 1 : 0;
        }

        int bill(int b, int what) {
            if (bad(b)) {
                return -1;
            }
            switch (what) {
                case 0: return s.stands[b] ? 1 : 0;
                case 1: return s.voicesFor(b);
                case 2: return s.voicesOn(b);
                case 3: return s.needed(b);
                case 4: return s.carries(b) ? 1 : 0;
                case 5: return s.points(b, -1, null);
                default: return -1;
            }
        }

        int terms(int what, int value) {
            int[] most = {999, 10, 9, 99};
            if (what < 0 || what > 3 || value < 0 || value > most[what]) {
                return refuse(-1);
            }
            int was = s.term[what];
            s.term[what] = value;
            return unforget(was);
        }

        int feed(int... numbers) {
            if (tape.length() > 380) {
                return -1;
            }
            for (int n : numbers) {
                for (byte x : java.nio.ByteBuffer.allocate(4).putInt(n).array()) {
                    tape += (char) (x & 255);
                }
            }
            return tape.length();
        }

        int end(int n) {
            if (n < 0 || n > tape.length()) {
                return -1;
            }
            tape = tape.substring(0, n);
            return n;
        }

        int row() {
            if (tape.isEmpty()) {
                return refuse(-6);
            }
            int came = 0;
            feathers = 0;
            while (!tape.isEmpty()) {
                String seven = tape.substring(0, Math.min(7, tape.length()));
                tape = tape.substring(seven.length());
                boolean so = seven.length() == 7 && s.rooks.size() < 7;
                so = so && seven.charAt(0) >= 1 && seven.charAt(0) <= 9 && seven.charAt(1) <= 3;
                for (int b = 0; so && b < 5; b++) {
                    so = seven.charAt(2 + b) <= 9;
                }
                if (so) {
                    Rook r = new Rook(seven.charAt(0), seven.charAt(1));
                    for (int b = 0; b < 5; b++) {
                        r.want[b] = seven.charAt(2 + b);
                    }
                    s.rooks.add(r);
                    came++;
                } else {
                    feathers++;
                }
            }
            return unforget(came);
        }

        List<Clause> read(boolean asOrders) {
            String text = tape;
            tape = "";
            fault = -1;
            try {
                return new Parser(text, asOrders).text();
            } catch (Fault f) {
                fault = f.place;
                return null;
            }
        }

        int law() {
            if (s.laws.size() == 6) {
                tape = "";
                return refuse(-5);
            }
            List<Clause> text = read(false);
            if (text == null) {
                return refuse(-6);
            }
            s.laws.add(text);
            return fine(s.laws.size() - 1);
        }

        int orders() {
            stopped = -1;
            List<Clause> text = read(true);
            if (text == null) {
                return refuse(-6);
            }
            State was = s.copy();
            List<State> wasPast = new ArrayList<>(past);
            List<Integer> wasDeeds = new ArrayList<>(deeds);
            int[] told = {0, -1};
            for (int c = 0; c < text.size(); c++) {
                for (int t = 0; t < text.get(c).times; t++) {
                    if (!run(text.get(c), told)) {
                        s = was;
                        past = wasPast;
                        deeds = wasDeeds;
                        stopped = c;
                        return refuse(-3);
                    }
                }
            }
            return fine(told[0]);
        }

        boolean run(Clause c, int[] told) {
            Words w = (name, n) -> {
                switch (name) {
                    case "day": return s.term[0];
                    case "done": return told[0];
                    case "latest": return told[1];
                    case "here": return s.hereCount();
                    case "standing": return Integer.bitCount(s.standBits());
                    case "for": return s.voicesFor(n);
                    default: return n < s.rooks.size() ? s.rooks.get(n).voice : -1;
                }
            };
            try {
                if (c.test != null && !c.test.of(w)) {
                    return true;
                }
            } catch (Broken e) {
                return true;
            }
            int[] args = new int[3];
            try {
                for (int i = 0; i < c.sums.size(); i++) {
                    args[i] = (int) c.sums.get(i).of(w);
                }
            } catch (Broken e) {
                return false;
            }
            int answer = act(List.of("put", "go", "sway", "pass").indexOf(c.verb), args[0], args[1], args[2]);
            if (c.verb.equals("put")) {
                told[1] = answer;
            }
            told[0]++;
            return answer >= 0;
        }

        int act(int kind, int a, int b, int c) {
            State was = s.copy();
            int answer = kind == 0 ? s.put(a) : kind == 1 ? s.go(a) : kind == 2 ? s.sway(a, b, c) : s.pass();
            if (answer >= 0) {
                past.add(was);
                deeds.add(kind);
                if (past.size() > 16) {
                    past.remove(0);
                    deeds.remove(0);
                }
            }
            return answer;
        }

        int answered(int a) {
            return a < 0 ? refuse(a) : fine(a);
        }

        int force(int law) {
            if (law < -1 || law >= s.laws.size()) {
                return refuse(-2);
            }
            int was = s.force;
            s.force = law;
            return fine(was);
        }

        int undo() {
            if (past.isEmpty()) {
                return refuse(-3);
            }
            State was = past.remove(past.size() - 1);
            s.stands = was.stands.clone();
            s.term[0] = was.term[0];
            s.rooks = was.copy().rooks;
            return fine(deeds.remove(deeds.size() - 1));
        }

        int votes(int a, int b) {
            return bad(a) || bad(b) || a == b ? -1 : s.votes(a, b);
        }

        int best() {
            for (int a = 0; a < 5; a++) {
                int n = 0;
                for (int b = 0; b < 5; b++) {
                    n += s.beats(a, b) ? 1 : 0;
                }
                if (n == 4) {
                    return a;
                }
            }
            return -1;
        }

        int rings() {
            int n = 0;
            for (int a = 0; a < 5; a++) {
                for (int b = 0; b < 5; b++) {
                    for (int c = 0; c < 5; c++) {
                        n += s.beats(a, b) && s.beats(b, c) && s.beats(c, a) ? 1 : 0;
                    }
                }
            }
            return n / 3;
        }

        int agenda(int bill, int what) {
            if (bad(bill) || what < 0 || what > 5) {
                return -1;
            }
            boolean[][] beats = new boolean[5][5];
            for (int a = 0; a < 5; a++) {
                for (int b = 0; b < 5; b++) {
                    beats[a][b] = s.beats(a, b);
                }
            }
            List<int[]> won = new ArrayList<>();
            for (int[] order : BILL_ORDERS) {
                int holds = order[0];
                for (int next : order) {
                    holds = beats[next][holds] ? next : holds;
                }
                if (holds == bill) {
                    won.add(order);
                }
            }
            return won.isEmpty() ? -1 : what == 0 ? won.size() : won.get(0)[what - 1];
        }

        List<Integer> allOn(int b) {
            List<Integer> on = new ArrayList<>();
            for (int m = 0; m < s.rooks.size(); m++) {
                if (s.on(m, b)) {
                    on.add(m);
                }
            }
            return on;
        }

        int[] speaksOn(int b) {
            int[] v = new int[s.rooks.size()];
            for (int m = 0; m < v.length; m++) {
                v[m] = s.speaks(m, b);
            }
            return v;
        }

        int power(int m, int b) {
            if (noRook(m) || bad(b)) {
                return -1;
            }
            List<Integer> on = allOn(b);
            if (!on.contains(m)) {
                return 0;
            }
            on.remove((Integer) m);
            int[] v = speaksOn(b);
            int need = s.needed(b);
            int n = 0;
            for (int set = 0; set < 1 << on.size(); set++) {
                int sum = 0;
                for (int i = 0; i < on.size(); i++) {
                    sum += (set >> i & 1) * v[on.get(i)];
                }
                n += sum < need && sum + v[m] >= need ? 1 : 0;
            }
            return n;
        }

        int pivot(int m, int b) {
            if (noRook(m) || bad(b)) {
                return -1;
            }
            List<Integer> on = allOn(b);
            int[] v = speaksOn(b);
            int need = s.needed(b);
            int n = 0;
            for (int[] order : ordersOf(on.size())) {
                int sum = 0;
                for (int i : order) {
                    int more = v[on.get(i)];
                    if (sum < need && sum + more >= need && on.get(i) == m) {
                        n++;
                    }
                    sum += more;
                }
            }
            return n;
        }

        int enough(int b, int what) {
            if (bad(b) || what < 0 || what > 1) {
                return -1;
            }
            List<Integer> on = allOn(b);
            int[] v = speaksOn(b);
            for (int size = 0; size <= on.size(); size++) {
                for (int set = 0; set < 128; set++) {
                    int sum = 0;
                    boolean so = Integer.bitCount(set) == size;
                    for (int m = 0; m < 7; m++) {
                        if ((set >> m & 1) == 1) {
                            so = so && on.contains(m);
                            sum += on.contains(m) ? v[m] : 0;
                        }
                    }
                    if (so && sum >= s.needed(b)) {
                        return what == 0 ? size : set;
                    }
                }
            }
            return -1;
        }

        int out(int b, int what) {
            if (bad(b) || what < 0 || what > 1) {
                return -1;
            }
            List<Integer> on = allOn(b);
            int[] v = speaksOn(b);
            for (int size = 0; size <= on.size(); size++) {
                for (int set = 0; set < 128; set++) {
                    boolean so = Integer.bitCount(set) == size;
                    int all = 0;
                    int yes = 0;
                    for (int m = 0; m < 7; m++) {
                        boolean gone = (set >> m & 1) == 1;
                        so = so && (!gone || on.contains(m));
                        if (!gone && on.contains(m)) {
                            all += v[m];
                            yes += s.isFor(m, b) ? v[m] : 0;
                        }
                    }
                    if (so && yes >= (s.term[3] > 0 ? s.term[3] : all / 2 + 1)) {
                        return what == 0 ? size : set;
                    }
                }
            }
            return -1;
        }

        int falsely(int m, int what) {
            if (noRook(m) || !s.rooks.get(m).here || what < 0 || what > 5) {
                return -1;
            }
            int honest = s.first(-1, null);
            for (int[] order : BILL_ORDERS) {
                int then = s.first(m, order);
                if (s.values(m, then) > s.values(m, honest)) {
                    return what == 0 ? then : order[what - 1];
                }
            }
            return -1;
        }

        int seen(int a, int b) {
            if (bad(a) || bad(b) || a == b) {
                return refuse(-1);
            }
            if (s.seen.size() == 6) {
                return refuse(-5);
            }
            s.seen.add(new int[] {a, b});
            return fine(s.seen.size());
        }

        int forget() {
            int n = s.seen.size();
            s.seen.clear();
            return n;
        }

        int ask(int what) {
            int who = s.canBe();
            if (who == 0 || what < 0 || what > 2) {
                return -1;
            }
            int[] best = null;
            for (int a = 0; a < 5; a++) {
                for (int b = a + 1; b < 5; b++) {
                    int[] groups = new int[3];
                    for (int m = 0; m < s.rooks.size(); m++) {
                        if ((who >> m & 1) == 1) {
                            groups[s.votesFor(m, a, b) ? 0 : s.votesFor(m, b, a) ? 1 : 2]++;
                        }
                    }
                    Arrays.sort(groups);
                    if (best == null || groups[2] < best[2]) {
                        best = new int[] {a, b, groups[2]};
                    }
                }
            }
            return best[what];
        }

        long few(int k, int n) {
            if (k < 1 || k > 20 || n < 0 || n > 99) {
                return -1;
            }
            long[] p = new long[101];
            p[0] = 1000000000000L;
            for (int i = 0; i < n; i++) {
                long[] q = new long[101];
                for (int j = 0; j <= i; j++) {
                    q[j] += p[j] * (10 - s.term[1]) / 10;
                    q[j + 1] += p[j] * s.term[1] / 10;
                }
                p = q;
            }
            long sum = 0;
            for (int j = 0; j < k; j++) {
                sum += p[j];
            }
            return sum;
        }

        int compare(int law) {
            if (law < -1 || law >= s.laws.size()) {
                return -1;
            }
            State other = s.copy();
            other.force = law;
            return other.first(-1, null);
        }

        int draw(int m) {
            luck = (luck * 1103 + 12345) % 1000003;
            return (int) (luck % m);
        }

        int sessions(int seed, int n) {
            if (seed < 0 || seed > 1000000 || n < 1 || n > 60) {
                return refuse(-1);
            }
            if (s.rooks.isEmpty()) {
                return refuse(-3);
            }
            paper = s.copy();
            luck = seed;
            for (int i = 0; i < n; i++) {
                if (paper.term[0] == 999) {
                    break;
                }
                int m = draw(paper.rooks.size());
                int b = draw(5);
                int want = draw(10);
                int deed = draw(4);
                if (deed == 0) {
                    paper.rooks.get(m).want[b] = want;
                } else if (deed == 1) {
                    paper.go(m);
                } else {
                    paper.put(b);
                }
                paper.pass();
            }
            return fine(Integer.bitCount(paper.standBits()));
        }

        int drawn(int k, int what) {
            if (paper == null || k < 0 || k >= (what == 0 ? 5 : paper.rooks.size()) || what < 0 || what > 6) {
                return -1;
            }
            return what == 0 ? (paper.stands[k] ? 1 : 0) : what == 1 ? (paper.rooks.get(k).here ? 1 : 0)
                    : paper.rooks.get(k).want[what - 2];
        }

        int image(int k) {
            if (k < 0 || k > 1) {
                return refuse(-1);
            }
            images[k] = s.copy();
            return fine(0);
        }

        int back(int k) {
            if (k < 0 || k > 1) {
                return refuse(-1);
            }
            if (images[k] == null) {
                return refuse(-2);
            }
            s = images[k].copy();
            return unforget(0);
        }

        int count(int what) {
            int[] all = {s.rooks.size(), s.hereCount(), s.standBits(), s.seen.size(), s.laws.size(), past.size(),
                tape.length(), refusals[1], refusals[2], refusals[3], refusals[5], refusals[6], s.force,
                s.term[0], s.term[1], s.term[2], s.term[3]};
            return what < 0 || what >= all.length ? -1 : all[what];
        }
    }

    /** Draws texts by the grammar, some of them hurt. */
    static final class Writer {
        final Random luck;
        boolean orders;
        int depth;

        Writer(Random luck) {
            this.luck = luck;
        }

        String pick(String... of) {
            return of[luck.nextInt(of.length)];
        }

        String gap() {
            return luck.nextInt(12) == 0 ? "  " : " ";
        }

        String part() {
            int d = luck.nextInt(12);
            if (d == 0 && depth < 9) {
                depth++;
                String s = "[" + sum() + "]";
                depth--;
                return s;
            }
            if (d < 5) {
                return pick("0", "1", "2", "3", "4", "5", "6", "9", "10", "1000", "007", "999");
            }
            if (orders) {
                String w = pick("day", "done", "latest", "here", "standing", "for", "voice");
                return w.equals("for") ? "for " + luck.nextInt(5) : w.equals("voice") ? "voice " + luck.nextInt(7) : w;
            }
            return pick("member", "voice", "side", "bill", "want", "stands", "here", "day", "mood");
        }

        String term() {
            String s = part();
            while (luck.nextInt(4) == 0) {
                s += pick("*", " * ", "/", "%", " % ") + part();
            }
            return s;
        }

        String sum() {
            String s = term();
            while (luck.nextInt(4) == 0) {
                s += pick("+", "-", " - ") + term();
            }
            return s;
        }

        String plain() {
            int d = luck.nextInt(8);
            if (d == 0) {
                return "not " + plain();
            }
            if (d == 1 && depth < 9) {
                depth++;
                String s = "(" + test() + ")";
                depth--;
                return s;
            }
            return sum() + pick("<", ">", "=", " = ") + sum();
        }

        String both() {
            String s = plain();
            while (luck.nextInt(4) == 0) {
                s += " and " + plain();
            }
            return s;
        }

        String test() {
            String s = both();
            while (luck.nextInt(4) == 0) {
                s += " or " + both();
            }
            return s;
        }

        String small(int below) {
            return luck.nextInt(3) == 0 ? "" + luck.nextInt(below) : "[" + sum() + "]%" + below;
        }

        String clause() {
            String s;
            if (orders) {
                String v = pick("put", "go", "sway", "pass", "pass");
                s = v;
                if (v.equals("put") || v.equals("go")) {
                    s += gap() + small(v.equals("put") ? 5 : 4);
                }
                if (v.equals("sway")) {
                    s += gap() + small(4) + " on " + small(5) + " to " + small(10);
                }
                if (luck.nextInt(4) == 0) {
                    s += " times " + pick("1", "2", "3", "20", "07");
                }
            } else {
                String v = pick("speaks", "wants", "wants", "bars");
                s = v + (v.equals("bars") ? "" : gap() + sum());
            }
            boolean asks = s.startsWith("bars") || luck.nextInt(2) == 0;
            return asks ? s + " if " + test() : s;
        }

        String text(boolean asOrders) {
            orders = asOrders;
            depth = 0;
            int n = luck.nextInt(8) == 0 ? 10 + luck.nextInt(4) : 1 + luck.nextInt(4);
            String s = "";
            for (int i = 0; i < n; i++) {
                s += (i == 0 ? "" : pick(";", "; ", " ;")) + (n > 9 ? pick(orders ? "pass" : "bars if 1=2", clause()) : clause());
            }
            if (luck.nextInt(4) == 0) {
                s = hurt(s);
            }
            return s.length() > 400 ? s.substring(0, 400) : s;
        }

        String hurt(String s) {
            int at = luck.nextInt(s.length() + 1);
            switch (luck.nextInt(6)) {
                case 0: return s.substring(0, at);
                case 1: return s.substring(0, at) + pick("x", "1", "(", ")", "[", "]", ";", "A", "\u0000", "\u00ff", "=", " ") + s.substring(at);
                case 2: return at < s.length() ? s.substring(0, at) + s.substring(at + 1) : s + ";";
                case 3: return s + pick(" if", " times 3", " 7", ";", " or 1=1", "  ", "1001", "\t");
                case 4: return deep();
                default: return s.replaceFirst(pick("if", "\\+", "=", "\\[", "to", "[0-9]"), pick("if not", "-", "<", "[[", "on", "1001"));
            }
        }

        String deep() {
            String s = orders ? "pass if " : "speaks 3 if ";
            int n = 7 + luck.nextInt(3);
            int inner = luck.nextInt(n + 1);
            s += "(".repeat(n - inner) + "[".repeat(inner) + "1" + "]".repeat(inner) + "=1" + ")".repeat(n - inner);
            if (luck.nextInt(2) == 0) {
                s = (orders ? "go 0" : "wants 0") + "+ 1".repeat(47 + luck.nextInt(5));
            }
            return s;
        }
    }

    static int wrong = 0;

    static void feed(RookHouse x, Model y, String text, List<String> told) {
        for (int i = 0; i < text.length(); i += 20) {
            int[] n = new int[5];
            for (int j = 0; j < 20; j++) {
                int c = i + j < text.length() ? text.charAt(i + j) : 0;
                n[j / 4] |= c << (24 - j % 4 * 8);
            }
            due("feed", x.feed(n[0], n[1], n[2], n[3], n[4]), y.feed(n), told);
        }
        due("end", x.end(text.length()), y.end(text.length()), told);
        told.add("text " + text);
    }

    static void due(String call, long got, long want, List<String> told) {
        told.add(call + " " + want);
        if (got != want) {
            wrong++;
            if (wrong < 5) {
                System.out.println(String.join("\n", told));
                System.out.println(call + " answered " + got + ", due is " + want);
            }
        }
    }

    /** Mostly numbers that can be, at times ones beside them or far off. */
    static int near(Random r, int least, int most) {
        int d = r.nextInt(40);
        return d == 0 ? least - 1 : d == 1 ? most + 1 : d == 2 ? Integer.MIN_VALUE : d == 3 ? Integer.MAX_VALUE
                : least + r.nextInt(most - least + 1);
    }

    static String rowText(Random r) {
        StringBuilder s = new StringBuilder();
        int n = 1 + r.nextInt(5);
        for (int i = 0; i < n; i++) {
            s.append((char) Math.max(0, near(r, 1, 9) & 255)).append((char) (near(r, 0, 3) & 255));
            for (int b = 0; b < 5; b++) {
                s.append((char) (near(r, 0, 9) & 255));
            }
        }
        s.setLength(s.length() - (r.nextInt(4) == 0 ? r.nextInt(7) : 0));
        return s.toString();
    }

    static void change(RookHouse x, Model y, Random r, List<String> told) {
        int a;
        int b;
        int c;
        switch (r.nextInt(16)) {
            case 0: a = near(r, 1, 9); b = near(r, 0, 3); due("member " + a + " " + b, x.member(a, b), y.member(a, b), told); break;
            case 1: a = near(r, 0, 3); b = near(r, 0, a == 0 ? 999 : a == 1 ? 10 : a == 2 ? 9 : r.nextInt(2) * 30);
                if (r.nextInt(3) > 0) {
                    break;
                }
                due("terms " + a + " " + b, x.terms(a, b), y.terms(a, b), told); break;
            case 2: feed(x, y, rowText(r), told); due("row", x.row(), y.row(), told); break;
            case 3: a = near(r, -1, 5); due("force " + a, x.force(a), y.force(a), told); break;
            case 4: case 5: a = near(r, 0, 4); due("put " + a, x.put(a), y.answered(y.act(0, a, 0, 0)), told); break;
            case 6: case 7: a = near(r, 0, 6); due("go " + a, x.go(a), y.answered(y.act(1, a, 0, 0)), told); break;
            case 8: case 9: a = near(r, 0, 6); b = near(r, 0, 4); c = near(r, 0, 9);
                due("sway " + a + " " + b + " " + c, x.sway(a, b, c), y.answered(y.act(2, a, b, c)), told); break;
            case 10: due("pass", x.pass(), y.answered(y.act(3, 0, 0, 0)), told); break;
            case 11: due("undo", x.undo(), y.undo(), told); break;
            case 12: a = near(r, 0, 4); b = near(r, 0, 4); due("seen " + a + " " + b, x.seen(a, b), y.seen(a, b), told); break;
            case 13: a = near(r, 0, 1000000); b = near(r, 1, 60); due("sessions " + a + " " + b, x.sessions(a, b), y.sessions(a, b), told); break;
            case 14: a = near(r, 0, 1);
                if (r.nextInt(3) > 0) {
                    due("image " + a, x.image(a), y.image(a), told);
                } else {
                    due("back " + a, x.back(a), y.back(a), told);
                }
                break;
            default:
                if (r.nextInt(4) == 0) {
                    due("forget", x.forget(), y.forget(), told);
                } else {
                    a = r.nextInt();
                    b = near(r, 0, 20);
                    due("feed", x.feed(a, -a, ~a, 8, 9), y.feed(a, -a, ~a, 8, 9), told);
                    due("end " + b, x.end(b), y.end(b), told);
                    due("row", x.row(), y.row(), told);
                }
        }
    }

    static void text(RookHouse x, Model y, Random r, Writer w, List<String> told) {
        boolean asOrders = r.nextInt(2) == 0;
        feed(x, y, w.text(asOrders), told);
        if (asOrders) {
            due("orders", x.orders(), y.orders(), told);
        } else {
            due("law", x.law(), y.law(), told);
            if (r.nextInt(2) == 0) {
                int a = y.s.laws.size() - 1;
                due("force " + a, x.force(a), y.force(a), told);
            }
        }
        due("fault", x.fault(), y.fault, told);
        due("stopped", x.stopped(), y.stopped, told);
    }

    static void question(RookHouse x, Model y, Random r, List<String> told) {
        int a = near(r, 0, 6);
        int b = near(r, 0, 4);
        int c = near(r, 0, 4);
        int w = near(r, 0, 7);
        switch (r.nextInt(26)) {
            case 0: due("of " + a + " " + w, x.of(a, w), y.of(a, w), told); break;
            case 1: case 2: due("asks " + a + " " + b + " " + c, x.asks(a, b, c), y.asks(a, b, c), told); break;
            case 3: case 4: due("bill " + b + " " + w, x.bill(b, w), y.bill(b, w), told); break;
            case 5: due("feathers", x.feathers(), y.feathers, told); break;
            case 6: due("votes " + b + " " + c, x.votes(b, c), y.votes(b, c), told); break;
            case 7: due("best", x.best(), y.best(), told); break;
            case 8: due("rings", x.rings(), y.rings(), told); break;
            case 9: due("agenda " + b + " " + w, x.agenda(b, w), y.agenda(b, w), told); break;
            case 10: due("power " + a + " " + b, x.power(a, b), y.power(a, b), told); break;
            case 11: due("pivot " + a + " " + b, x.pivot(a, b), y.pivot(a, b), told); break;
            case 12: w = near(r, 0, 1); due("enough " + b + " " + w, x.enough(b, w), y.enough(b, w), told); break;
            case 13: w = near(r, 0, 1); due("out " + b + " " + w, x.out(b, w), y.out(b, w), told); break;
            case 14: due("first", x.first(), y.s.first(-1, null), told); break;
            case 15: case 24: case 25: due("falsely " + a + " " + w, x.falsely(a, w), y.falsely(a, w), told); break;
            case 16: due("canBe", x.canBe(), y.s.canBe(), told); break;
            case 17: w = near(r, 0, 2); due("ask " + w, x.ask(w), y.ask(w), told); break;
            case 18: a = near(r, 1, 20); b = near(r, 0, 99); due("few " + a + " " + b, x.few(a, b), y.few(a, b), told); break;
            case 19: a = near(r, -1, 5); due("compare " + a, x.compare(a), y.compare(a), told); break;
            case 20: due("drawn " + a + " " + w, x.drawn(a, w), y.drawn(a, w), told); break;
            case 21: w = near(r, 0, 16); due("count " + w, x.count(w), y.count(w), told); break;
            case 22: due("status", x.status(), y.status, told); break;
            default: due("fault", x.fault(), y.fault, told);
        }
    }

    static void audit(RookHouse x, Model y, List<String> told) {
        for (int i = 0; i < 17; i++) {
            due("count " + i, x.count(i), y.count(i), told);
        }
        for (int m = 0; m < 7; m++) {
            for (int w = 0; w < 8; w++) {
                due("of " + m + " " + w, x.of(m, w), y.of(m, w), told);
                due("drawn " + m + " " + w, x.drawn(m, w), y.drawn(m, w), told);
            }
        }
        due("status", x.status(), y.status, told);
    }

    public static void main(String[] args) {
        int runs = args.length > 0 ? Integer.parseInt(args[0]) : 1500;
        int taken = 0;
        int done = 0;
        for (int run = 0; run < runs && wrong == 0; run++) {
            Random r = new Random(run);
            Writer w = new Writer(r);
            RookHouse x = new RookHouse();
            Model y = new Model();
            List<String> told = new ArrayList<>();
            told.add("run " + run);
            for (int i = 0; i < 3 + r.nextInt(4); i++) {
                int a = 1 + r.nextInt(9);
                due("member " + a, x.member(a, i % 4), y.member(a, i % 4), told);
                for (int b = 0; b < 5; b++) {
                    int c = r.nextInt(10);
                    due("sway", x.sway(i, b, c), y.answered(y.act(2, i, b, c)), told);
                }
            }
            for (int i = 0; i < 120 && wrong == 0; i++) {
                int d = r.nextInt(10);
                if (d < 2) {
                    text(x, y, r, w, told);
                    taken += y.status == 0 ? 1 : 0;
                    done++;
                } else if (d < 5) {
                    change(x, y, r, told);
                } else {
                    question(x, y, r, told);
                }
            }
            audit(x, y, told);
        }
        System.out.println(taken + " of " + done + " texts were taken");
        System.out.println(wrong == 0 ? "all answers are as the model's" : wrong + " answers are not the model's");
        if (wrong != 0) {
            System.exit(1);
        }
    }
}
