import java.math.BigInteger;
import java.util.ArrayDeque;
import java.util.ArrayList;
import java.util.Arrays;
import java.util.Collections;
import java.util.Deque;
import java.util.HashMap;
import java.util.HashSet;
import java.util.List;
import java.util.Map;
import java.util.Set;

/**
 * The document once more, in its plainest form and without regard to speed: everything is tried out.
 * Its calls bear the names of the class's own, so that both can be asked the same.
 */
final class PlainTown {
    static final int NONE = -1;

    /** A fault, thrown as soon as its token is come to. */
    static final class Fault extends RuntimeException {
        private static final long serialVersionUID = 1;
        final int kind;
        final int place;

        Fault(int kind, int place) {
            super(null, null, false, false);
            this.kind = kind;
            this.place = place;
        }
    }

    /** A part of a sum: one of number, name, negation, or two parts joined. */
    static final class Part {
        String what;
        long number;
        Part one;
        Part two;

        long value(Map<String, Integer> names) {
            switch (what) {
                case "number": return number;
                case "name": return names.get(nameText);
                case "neg": return cut(-one.value(names));
                case "+": return cut(one.value(names) + two.value(names));
                case "-": return cut(one.value(names) - two.value(names));
                case "*": return cut(one.value(names) * two.value(names));
                case "/": {
                    long a = one.value(names);
                    long b = two.value(names);
                    return b == 0 ? 0 : cut(a / b);
                }
                case "least": return Math.min(one.value(names), two.value(names));
                case "most": return Math.max(one.value(names), two.value(names));
                default: throw new IllegalStateException(what);
            }
        }

        String nameText;

        static long cut(long v) {
            return v > 1000000 ? 1000000 : v < -1000000 ? -1000000 : v;
        }
    }

    static final class Clause {
        String word;
        Part law;
        final List<Integer> numbers = new ArrayList<>();
        final List<Integer> turns = new ArrayList<>();
        String side;
    }

    static final class Script {
        final List<Clause> clauses = new ArrayList<>();

        Part law(String word) {
            for (Clause c : clauses) {
                if (c.word.equals(word)) {
                    return c.law;
                }
            }
            return null;
        }
    }

    static final class Corner {
        int sight;
        final int[] to = {NONE, NONE, NONE, NONE};
        final boolean[] lane = new boolean[4];
    }

    static final class Telling {
        int teller;
        int facing;
        final List<Integer> turns = new ArrayList<>();
    }

    /** All that a step takes back. */
    static final class Moment {
        int corner = NONE;
        int facing;
        int seconds;
        int x = 29;
        List<Integer> asked = new ArrayList<>(Collections.nCopies(6, 0));

        Moment copy() {
            Moment m = new Moment();
            m.corner = corner;
            m.facing = facing;
            m.seconds = seconds;
            m.x = x;
            m.asked = new ArrayList<>(asked);
            return m;
        }
    }

    static final class State {
        List<Corner> corners = new ArrayList<>();
        int goal = NONE;
        List<int[]> tellers = new ArrayList<>();
        List<Telling> tellings = new ArrayList<>();
        List<Script> texts = new ArrayList<>();
        int theText = NONE;
        Moment now = new Moment();
        Deque<Moment> steps = new ArrayDeque<>();

        State copy() {
            State s = new State();
            for (Corner c : corners) {
                Corner d = new Corner();
                d.sight = c.sight;
                System.arraycopy(c.to, 0, d.to, 0, 4);
                System.arraycopy(c.lane, 0, d.lane, 0, 4);
                s.corners.add(d);
            }
            s.goal = goal;
            s.tellers.addAll(tellers);
            s.tellings.addAll(tellings);
            s.texts.addAll(texts);
            s.theText = theText;
            s.now = now.copy();
            for (Moment m : steps) {
                s.steps.addLast(m.copy());
            }
            return s;
        }
    }

    private State s = new State();
    private State kept = new State();
    private final List<Integer> tape = new ArrayList<>();
    private int fault = NONE;
    private int faultPlace = NONE;

    // ---- what is told

    int corner(int sight) {
        if (sight < 0 || sight > 5 || s.corners.size() == 16) {
            return NONE;
        }
        Corner c = new Corner();
        c.sight = sight;
        s.corners.add(c);
        return s.corners.size() - 1;
    }

    private boolean isCorner(int c) {
        return c >= 0 && c < s.corners.size();
    }

    private boolean isTelling(int t) {
        return t >= 0 && t < s.tellings.size();
    }

    boolean street(int from, int direction, int to, boolean lane) {
        if (!isCorner(from) || !isCorner(to) || from == to || direction < 0 || direction > 3) {
            return false;
        }
        int opposite = (direction + 2) % 4;
        Corner a = s.corners.get(from);
        Corner b = s.corners.get(to);
        if (a.to[direction] != NONE || b.to[opposite] != NONE) {
            return false;
        }
        a.to[direction] = to;
        b.to[opposite] = from;
        a.lane[direction] = lane;
        b.lane[opposite] = lane;
        return true;
    }

    boolean goal(int corner) {
        if (corner == NONE || isCorner(corner)) {
            s.goal = corner;
            return true;
        }
        return false;
    }

    int teller(int corner, int swap, int leave, int mix) {
        for (int v : new int[] {swap, leave, mix}) {
            if (v < 0 || v > 10) {
                return NONE;
            }
        }
        if (!isCorner(corner) || s.tellers.size() == 6) {
            return NONE;
        }
        s.tellers.add(new int[] {corner, swap, leave, mix});
        return s.tellers.size() - 1;
    }

    static List<Integer> allTurns() {
        List<Integer> all = new ArrayList<>();
        for (int what = 1; what <= 3; what++) {
            for (int n = 1; n <= 4; n++) {
                all.add(100 * what + n);
            }
            for (int sight = 1; sight <= 5; sight++) {
                all.add(100 * what + 10 + sight);
            }
        }
        return all;
    }

    int telling(int teller, int facing, int turns, int more) {
        if (teller < 0 || teller >= s.tellers.size() || facing < 0 || facing > 3 || s.tellings.size() == 8) {
            return NONE;
        }
        List<Integer> first = unpack(turns);
        List<Integer> others = more == 0 ? new ArrayList<>() : unpack(more);
        if (first == null || others == null || !others.isEmpty() && first.size() != 3) {
            return NONE;
        }
        Telling t = new Telling();
        t.teller = teller;
        t.facing = facing;
        t.turns.addAll(first);
        t.turns.addAll(others);
        s.tellings.add(t);
        return s.tellings.size() - 1;
    }

    /** The turns by trying which one to three turns make that number. */
    private static List<Integer> unpack(int number) {
        String digits = Integer.toString(number);
        if (number <= 0 || digits.length() % 3 != 0 || digits.length() > 9) {
            return null;
        }
        List<Integer> turns = new ArrayList<>();
        for (int i = 0; i < digits.length(); i += 3) {
            int turn = Integer.parseInt(digits.substring(i, i + 3));
            if (!allTurns().contains(turn)) {
                return null;
            }
            turns.add(turn);
        }
        return turns;
    }

    // ---- texts

    int feed(int a, int b, int c, int d, int e) {
        if (tape.size() + 20 > 300) {
            return NONE;
        }
        for (int v : new int[] {a, b, c, d, e}) {
            tape.add(v >>> 24);
            tape.add(v >>> 16 & 255);
            tape.add(v >>> 8 & 255);
            tape.add(v & 255);
        }
        return tape.size();
    }

    int end(int n) {
        if (n < 0 || n > tape.size()) {
            return NONE;
        }
        while (tape.size() > n) {
            tape.remove(tape.size() - 1);
        }
        return n;
    }

    int text() {
        if (s.texts.size() == 4) {
            return NONE;
        }
        List<Integer> bytes = new ArrayList<>(tape);
        tape.clear();
        fault = 0;
        faultPlace = NONE;
        try {
            s.texts.add(new Parser(bytes).script());
            return s.texts.size() - 1;
        } catch (Fault f) {
            fault = f.kind;
            faultPlace = f.place;
            return NONE;
        }
    }

    int fault(int what) {
        return what == 0 ? fault : what == 1 ? faultPlace : NONE;
    }

    boolean by(int text) {
        if (text >= NONE && text < s.texts.size()) {
            s.theText = text;
            return true;
        }
        return false;
    }

    static final class Parser {
        static final List<String> LAWS = List.of("swaps", "leaves", "mixes", "pace", "asks");
        static final List<String> DEEDS = List.of("corner", "street", "lane", "goal", "teller", "telling",
                "start", "walk", "turn", "ask", "follow");
        static final Set<String> ALL_NAMES = Set.of("who", "here", "asked", "turns", "face", "told", "narrow",
                "sight", "way");
        final String text;
        int next;
        String token;
        int place;
        int open;
        Set<String> names;

        Parser(List<Integer> bytes) {
            StringBuilder b = new StringBuilder();
            for (int v : bytes) {
                b.append((char) v);
            }
            text = b.toString();
            advance();
        }

        void advance() {
            while (next < text.length() && " \n".indexOf(text.charAt(next)) >= 0) {
                next++;
            }
            place = next;
            if (next == text.length()) {
                token = "";
                return;
            }
            String rest = text.substring(next);
            String letters = rest.replaceFirst("(?s)^([a-zA-Z]+).*$", "$1");
            String digits = rest.replaceFirst("(?s)^([0-9]+).*$", "$1");
            if (rest.matches("(?s)[a-zA-Z].*")) {
                token = letters;
            } else if (rest.matches("(?s)[0-9].*")) {
                token = digits;
            } else if (rest.startsWith("<=") || rest.startsWith(">=")) {
                token = rest.substring(0, 2);
            } else {
                token = rest.substring(0, 1);
            }
            next += token.length();
        }

        Fault fault(int kind) {
            return new Fault(kind, place);
        }

        boolean isNumber() {
            return token.matches("[0-9]+");
        }

        int value() {
            BigInteger v = new BigInteger(token);
            return v.compareTo(BigInteger.valueOf(9999)) > 0 ? 10000 : v.intValue();
        }

        Script script() {
            Script script = new Script();
            Set<String> laws = new HashSet<>();
            while (!token.isEmpty()) {
                boolean law = LAWS.contains(token);
                if (!law && !DEEDS.contains(token)) {
                    throw fault(1);
                }
                if (law && !laws.add(token)) {
                    throw fault(4);
                }
                if (script.clauses.size() == 24) {
                    throw fault(6);
                }
                script.clauses.add(clause());
            }
            return script;
        }

        Clause clause() {
            Clause c = new Clause();
            c.word = token;
            advance();
            switch (c.word) {
                case "swaps": case "leaves": case "mixes":
                    names = Set.of("who", "here", "asked", "turns", "face", "told");
                    c.law = sum();
                    break;
                case "pace":
                    names = Set.of("narrow", "sight", "way");
                    c.law = sum();
                    break;
                case "asks":
                    names = Set.of("who", "here", "asked");
                    c.law = sum();
                    break;
                case "corner": c.numbers.add(number(0, 5)); break;
                case "street": case "lane":
                    c.numbers.add(number(0, 15));
                    c.numbers.add(number(0, 3));
                    word("to");
                    c.numbers.add(number(0, 15));
                    break;
                case "goal": case "teller": c.numbers.add(number(0, 15)); break;
                case "telling":
                    c.numbers.add(number(0, 5));
                    word("facing");
                    c.numbers.add(number(0, 3));
                    word(":");
                    turns(c);
                    break;
                case "start":
                    c.numbers.add(number(0, 15));
                    word("facing");
                    c.numbers.add(number(0, 3));
                    break;
                case "walk": c.numbers.add(number(1, 20)); break;
                case "turn": c.side = oneOf("left", "right", "back"); break;
                case "ask": c.numbers.add(number(0, 5)); break;
                case "follow": c.numbers.add(number(0, 7)); break;
                default: throw new IllegalStateException(c.word);
            }
            word(";");
            return c;
        }

        void turns(Clause c) {
            boolean more = true;
            while (more) {
                boolean bySight = token.equals("at");
                if (!bySight && !isNumber()) {
                    throw fault(1);
                }
                if (isNumber() && (value() < 1 || value() > 4)) {
                    throw fault(2);
                }
                if (c.turns.size() == 6) {
                    throw fault(7);
                }
                if (bySight) {
                    advance();
                }
                int n = number(1, bySight ? 5 : 4);
                String side = oneOf("left", "right", "on");
                int what = side.equals("left") ? 1 : side.equals("right") ? 2 : 3;
                c.turns.add(100 * what + (bySight ? 10 : 0) + n);
                more = token.equals(",");
                if (more) {
                    advance();
                }
            }
        }

        int number(int low, int high) {
            if (!isNumber()) {
                throw fault(1);
            }
            int v = value();
            if (v < low || v > high) {
                throw fault(2);
            }
            advance();
            return v;
        }

        void word(String w) {
            if (!token.equals(w)) {
                throw fault(1);
            }
            advance();
        }

        String oneOf(String... words) {
            if (!Arrays.asList(words).contains(token)) {
                throw fault(1);
            }
            String w = token;
            advance();
            return w;
        }

        Part join(String what, Part one, Part two) {
            Part p = new Part();
            p.what = what;
            p.one = one;
            p.two = two;
            return p;
        }

        Part sum() {
            Part p = product();
            while (token.equals("+") || token.equals("-")) {
                String op = token;
                advance();
                p = join(op, p, product());
            }
            return p;
        }

        Part product() {
            Part p = one();
            while (token.equals("*") || token.equals("/")) {
                String op = token;
                advance();
                p = join(op, p, one());
            }
            return p;
        }

        Part one() {
            Part p = new Part();
            if (isNumber()) {
                p.what = "number";
                p.number = number(0, 9999);
                return p;
            }
            if (ALL_NAMES.contains(token)) {
                if (!names.contains(token)) {
                    throw fault(5);
                }
                p.what = "name";
                p.nameText = token;
                advance();
                return p;
            }
            if (!List.of("(", "-", "least", "most").contains(token)) {
                throw fault(1);
            }
            open++;
            if (open == 9) {
                throw fault(3);
            }
            String opener = token;
            advance();
            if (opener.equals("(")) {
                p = sum();
                word(")");
            } else if (opener.equals("-")) {
                p = join("neg", one(), null);
            } else {
                word("of");
                Part a = sum();
                word(",");
                Part b = sum();
                word("end");
                p = join(opener, a, b);
            }
            open--;
            return p;
        }
    }

    private Part law(String word) {
        return s.theText == NONE ? null : s.texts.get(s.theText).law(word);
    }

    private static int held(long v, int low, int high) {
        return (int) (v < low ? low : v > high ? high : v);
    }

    private int slip(int telling, int which) {
        Telling t = s.tellings.get(telling);
        int told = s.tellers.get(t.teller)[1 + which];
        Part law = law(List.of("swaps", "leaves", "mixes").get(which));
        if (law == null) {
            return told;
        }
        Map<String, Integer> names = tellerNames(t.teller);
        names.put("turns", t.turns.size());
        names.put("face", t.facing);
        names.put("told", told);
        return held(law.value(names), 0, 10);
    }

    private Map<String, Integer> tellerNames(int teller) {
        Map<String, Integer> names = new HashMap<>();
        names.put("who", teller);
        names.put("here", s.tellers.get(teller)[0]);
        names.put("asked", s.now.asked.get(teller));
        return names;
    }

    private int pace(int from, int direction) {
        Part law = law("pace");
        if (law == null) {
            return 10;
        }
        Map<String, Integer> names = new HashMap<>();
        names.put("narrow", s.corners.get(from).lane[direction] ? 1 : 0);
        names.put("sight", s.corners.get(s.corners.get(from).to[direction]).sight);
        names.put("way", direction);
        return held(law.value(names), 1, 99);
    }

    private int askTime(int teller) {
        Part law = law("asks");
        return law == null ? 20 : held(law.value(tellerNames(teller)), 0, 99);
    }

    // ---- the walker

    private void step() {
        s.steps.addLast(s.now.copy());
        if (s.steps.size() > 30) {
            s.steps.removeFirst();
        }
    }

    boolean start(int corner, int facing) {
        if (!isCorner(corner) || facing < 0 || facing > 3) {
            return false;
        }
        step();
        s.now.corner = corner;
        s.now.facing = facing;
        s.now.seconds = 0;
        return true;
    }

    private boolean walkOne() {
        int to = s.corners.get(s.now.corner).to[s.now.facing];
        if (to == NONE) {
            return false;
        }
        s.now.seconds += pace(s.now.corner, s.now.facing);
        s.now.corner = to;
        return true;
    }

    int walk(int n) {
        if (n < 1 || n > 20 || s.now.corner == NONE) {
            return NONE;
        }
        int c = s.now.corner;
        for (int i = 0; i < n; i++) {
            c = s.corners.get(c).to[s.now.facing];
            if (c == NONE) {
                return NONE;
            }
        }
        for (int i = 0; i < n; i++) {
            step();
            walkOne();
        }
        return s.now.corner;
    }

    int turn(int side) {
        if (side < 1 || side > 3 || s.now.corner == NONE) {
            return NONE;
        }
        step();
        s.now.facing = (s.now.facing + (side == 1 ? 3 : side == 2 ? 1 : 2)) % 4;
        return s.now.facing;
    }

    private void askNow(int teller) {
        s.now.seconds += askTime(teller);
        s.now.asked.set(teller, s.now.asked.get(teller) + 1);
    }

    int ask(int teller) {
        if (teller < 0 || teller >= s.tellers.size() || s.now.corner == NONE
                || s.tellers.get(teller)[0] != s.now.corner) {
            return NONE;
        }
        step();
        askNow(teller);
        return s.now.asked.get(teller);
    }

    int follow(int telling) {
        if (!isTelling(telling) || s.now.corner == NONE) {
            return NONE;
        }
        step();
        Gone g = gone(s.now.corner, s.now.facing, s.tellings.get(telling).turns, 0, true);
        for (int[] street : g.streets) {
            s.now.seconds += pace(street[0], street[1]);
        }
        s.now.corner = g.corner;
        s.now.facing = g.facing;
        return g.all ? 1 : 0;
    }

    int played(int text) {
        if (text < 0 || text >= s.texts.size()) {
            return -2;
        }
        List<Clause> clauses = s.texts.get(text).clauses;
        for (int i = 0; i < clauses.size(); i++) {
            if (!play(clauses.get(i))) {
                return i;
            }
        }
        return NONE;
    }

    private boolean play(Clause c) {
        List<Integer> n = c.numbers;
        switch (c.word) {
            case "corner": return corner(n.get(0)) != NONE;
            case "street": return street(n.get(0), n.get(1), n.get(2), false);
            case "lane": return street(n.get(0), n.get(1), n.get(2), true);
            case "goal": return goal(n.get(0));
            case "teller": return teller(n.get(0), 0, 0, 0) != NONE;
            case "telling": {
                int first = 0;
                int more = 0;
                for (int i = 0; i < c.turns.size(); i++) {
                    if (i < 3) {
                        first = first * 1000 + c.turns.get(i);
                    } else {
                        more = more * 1000 + c.turns.get(i);
                    }
                }
                return telling(n.get(0), n.get(1), first, more) != NONE;
            }
            case "start": return start(n.get(0), n.get(1));
            case "walk":
                for (int i = 0; i < n.get(0); i++) {
                    if (walk(1) == NONE) {
                        return false;
                    }
                }
                return true;
            case "turn": return turn(List.of("left", "right", "back").indexOf(c.side) + 1) != NONE;
            case "ask": return ask(n.get(0)) != NONE;
            case "follow": return follow(n.get(0)) != NONE;
            default: return true;
        }
    }

    int day(int seed, int n) {
        if (seed < 0 || seed > 9999 || n < 1 || n > 30 || s.corners.isEmpty()) {
            return NONE;
        }
        step();
        long x = seed * 4L + 29;
        s.now.corner = (int) (x % s.corners.size());
        s.now.facing = (int) (x % 4);
        s.now.seconds = 0;
        x = (x * 229 + 127) % 30181;
        for (int i = 0; i < n; i++) {
            if (x % 4 == 0) {
                s.now.facing = (s.now.facing + 1) % 4;
            } else if (x % 4 == 1) {
                for (int t = 0; t < s.tellers.size(); t++) {
                    if (s.tellers.get(t)[0] == s.now.corner) {
                        askNow(t);
                        break;
                    }
                }
            } else if (!walkOne()) {
                s.now.facing = (s.now.facing + 3) % 4;
            }
            x = (x * 229 + 127) % 30181;
        }
        s.now.x = (int) x;
        return s.now.seconds;
    }

    int undo() {
        if (s.steps.isEmpty()) {
            return NONE;
        }
        s.now = s.steps.removeLast();
        return s.steps.size();
    }

    int walker(int what) {
        if (s.now.corner == NONE) {
            return NONE;
        }
        return what == 0 ? s.now.corner : what == 1 ? s.now.facing : what == 2 ? s.now.seconds : NONE;
    }

    int ofCorner(int corner, int what) {
        if (!isCorner(corner) || what < 0 || what > 8) {
            return -2;
        }
        Corner c = s.corners.get(corner);
        if (what == 0) {
            return c.sight;
        }
        if (what < 5) {
            return c.to[what - 1];
        }
        return c.to[what - 5] == NONE ? NONE : c.lane[what - 5] ? 1 : 0;
    }

    int ofTeller(int teller, int what) {
        if (teller < 0 || teller >= s.tellers.size() || what < 0 || what > 4) {
            return NONE;
        }
        return what == 4 ? s.now.asked.get(teller) : s.tellers.get(teller)[what];
    }

    int ofTelling(int telling, int what) {
        if (!isTelling(telling)) {
            return NONE;
        }
        Telling t = s.tellings.get(telling);
        switch (what) {
            case 0: return t.teller;
            case 1: return t.facing;
            case 2: return t.turns.size();
            case 3: case 4: case 5: return slip(telling, what - 3);
            default: return what >= 10 && what - 10 < t.turns.size() ? t.turns.get(what - 10) : NONE;
        }
    }

    // ---- how a telling is gone

    static final class Gone {
        boolean all;
        int corner;
        int facing;
        final List<int[]> streets = new ArrayList<>();
    }

    private boolean ahead(Gone g) {
        int to = s.corners.get(g.corner).to[g.facing];
        if (to == NONE || g.streets.size() == 40) {
            return false;
        }
        g.streets.add(new int[] {g.corner, g.facing});
        g.corner = to;
        return true;
    }

    private boolean counts(int corner, int direction, int slips) {
        Corner c = s.corners.get(corner);
        return c.to[direction] != NONE && !(c.lane[direction] && (slips & 2) != 0);
    }

    private Gone gone(int corner, int facing, List<Integer> turns, int slips, boolean onceMore) {
        Gone g = new Gone();
        g.corner = corner;
        g.facing = facing;
        int what = 3;
        for (int turn : turns) {
            what = turn / 100;
            if ((slips & 1) != 0) {
                what = what == 1 ? 2 : what == 2 ? 1 : 3;
            }
            boolean bySight = turn / 10 % 10 == 1;
            int n = turn % 10;
            if (bySight && (slips & 4) != 0) {
                n = n == 1 ? 2 : n == 2 ? 1 : n;
            }
            int side = (g.facing + (what == 1 ? 3 : what == 2 ? 1 : 0)) % 4;
            int nth = 0;
            boolean done = false;
            while (!done) {
                if (!ahead(g)) {
                    return g;
                }
                if (bySight) {
                    done = s.corners.get(g.corner).sight == n;
                } else if (what == 3) {
                    nth++;
                    done = nth == n;
                } else if (counts(g.corner, side, slips)) {
                    nth++;
                    done = nth == n;
                }
            }
            if (what != 3) {
                if (!counts(g.corner, side, slips)) {
                    return g;
                }
                g.facing = side;
            }
        }
        if (onceMore && what != 3 && !ahead(g)) {
            return g;
        }
        g.all = true;
        return g;
    }

    /** For those who make up tellings: whether these turns lead anywhere from there. */
    boolean canBeGone(int corner, int facing, List<Integer> turns) {
        return isCorner(corner) && gone(corner, facing, turns, 0, true).all;
    }

    private Gone told(int telling, int slips) {
        Telling t = s.tellings.get(telling);
        return gone(s.tellers.get(t.teller)[0], t.facing, t.turns, slips, true);
    }

    private int weight(int telling, int way) {
        int w = 1;
        for (int i = 0; i < 3; i++) {
            int often = slip(telling, i);
            w *= (way >> i & 1) == 1 ? often : 10 - often;
        }
        return w;
    }

    int leads(int telling, int slips) {
        if (!isTelling(telling) || slips < 0 || slips > 7) {
            return NONE;
        }
        Gone g = told(telling, slips);
        return g.all ? g.corner : NONE;
    }

    int likely(int telling, int corner) {
        if (!isTelling(telling) || corner != NONE && !isCorner(corner)) {
            return NONE;
        }
        int sum = 0;
        for (int way = 0; way < 8; way++) {
            int to = leads(telling, way);
            if (to != NONE && (corner == NONE || to == corner)) {
                sum += weight(telling, way);
            }
        }
        return sum;
    }

    private boolean isSet(int set, int most) {
        return set > 0 && set < 1 << s.tellings.size() && members(set).size() <= most;
    }

    private static List<Integer> members(int set) {
        List<Integer> all = new ArrayList<>();
        for (int i = 0; i < 31; i++) {
            if ((set >> i & 1) == 1) {
                all.add(i);
            }
        }
        return all;
    }

    private static long term(BigInteger upper, BigInteger lower, boolean low) {
        if (lower.signum() == 0) {
            return low ? 1 : 0;
        }
        BigInteger g = upper.gcd(lower);
        return (low ? lower : upper).divide(g).longValueExact();
    }

    private BigInteger product(int tellings, int corner) {
        BigInteger p = BigInteger.ONE;
        for (int t : members(tellings)) {
            p = p.multiply(BigInteger.valueOf(likely(t, corner)));
        }
        return p;
    }

    private BigInteger allProducts(int tellings) {
        BigInteger sum = BigInteger.ZERO;
        for (int c = 0; c < s.corners.size(); c++) {
            sum = sum.add(product(tellings, c));
        }
        return sum;
    }

    long byAll(int tellings, int corner, boolean low) {
        if (!isSet(tellings, 4) || !isCorner(corner)) {
            return NONE;
        }
        return term(product(tellings, corner), allProducts(tellings), low);
    }

    int clash(int i) {
        List<Integer> twos = new ArrayList<>();
        for (int a = 0; a < s.tellings.size(); a++) {
            for (int b = a + 1; b < s.tellings.size(); b++) {
                boolean meet = false;
                for (int c = 0; c < s.corners.size(); c++) {
                    meet |= likely(a, c) > 0 && likely(b, c) > 0;
                }
                if (!meet) {
                    twos.add(8 * a + b);
                }
            }
        }
        return i == NONE ? twos.size() : i >= 0 && i < twos.size() ? twos.get(i) : NONE;
    }

    int wrong(int tellings, boolean corner) {
        if (!isSet(tellings, 8)) {
            return NONE;
        }
        for (int size = 0; size <= 8; size++) {
            for (int set = 0; set < 256; set++) {
                if (members(set).size() == size && (set & ~tellings) == 0) {
                    for (int c = 0; c < s.corners.size(); c++) {
                        boolean all = true;
                        for (int t : members(tellings & ~set)) {
                            all &= likely(t, c) > 0;
                        }
                        if (all) {
                            return corner ? c : set;
                        }
                    }
                }
            }
        }
        return NONE;
    }

    int far(int from, int to) {
        if (!isCorner(from) || !isCorner(to)) {
            return NONE;
        }
        int n = s.corners.size();
        int[] best = new int[n];
        Arrays.fill(best, NONE);
        best[from] = 0;
        for (int round = 0; round < n; round++) {
            for (int c = 0; c < n; c++) {
                for (int d = 0; d < 4 && best[c] != NONE; d++) {
                    int next = s.corners.get(c).to[d];
                    if (next != NONE && (best[next] == NONE || best[next] > best[c] + pace(c, d))) {
                        best[next] = best[c] + pace(c, d);
                    }
                }
            }
        }
        return best[to];
    }

    private List<Integer> likelyCorners(int tellings) {
        List<Integer> all = new ArrayList<>();
        for (int c = 0; c < s.corners.size(); c++) {
            if (product(tellings, c).signum() > 0) {
                all.add(c);
            }
        }
        return all;
    }

    private static void orders(List<Integer> rest, List<Integer> sofar, List<List<Integer>> into) {
        if (rest.isEmpty()) {
            into.add(sofar);
        }
        for (Integer c : rest) {
            List<Integer> fewer = new ArrayList<>(rest);
            fewer.remove(c);
            List<Integer> more = new ArrayList<>(sofar);
            more.add(c);
            orders(fewer, more, into);
        }
    }

    /** The best order, or null; its sum of products times seconds is put into mean[0]. */
    private List<Integer> order(int tellings, BigInteger[] mean) {
        if (!isSet(tellings, 4) || s.now.corner == NONE) {
            return null;
        }
        List<Integer> corners = likelyCorners(tellings);
        if (corners.isEmpty() || corners.size() > 5) {
            return null;
        }
        List<List<Integer>> all = new ArrayList<>();
        orders(corners, new ArrayList<>(), all);
        Map<Integer, Integer> fars = new HashMap<>();
        List<Integer> from = new ArrayList<>(corners);
        from.add(s.now.corner);
        for (int a : from) {
            for (int b : corners) {
                fars.put(16 * a + b, far(a, b));
            }
        }
        List<Integer> best = null;
        for (List<Integer> order : all) {
            BigInteger sum = BigInteger.ZERO;
            int seconds = 0;
            int at = s.now.corner;
            boolean can = true;
            for (int c : order) {
                int leg = fars.get(16 * at + c);
                can &= leg != NONE;
                seconds += leg;
                sum = sum.add(product(tellings, c).multiply(BigInteger.valueOf(seconds)));
                at = c;
            }
            if (can && (best == null || sum.compareTo(mean[0]) < 0)) {
                best = order;
                mean[0] = sum;
            }
        }
        return best;
    }

    long see(int tellings, int i) {
        BigInteger[] mean = new BigInteger[1];
        List<Integer> order = order(tellings, mean);
        if (order == null || i < -2) {
            return NONE;
        }
        if (i == -1 || i == -2) {
            return term(mean[0], allProducts(tellings), i == -2);
        }
        return i < order.size() ? order.get(i) : NONE;
    }

    int orAsk(int tellings) {
        BigInteger[] mean = new BigInteger[1];
        if (order(tellings, mean) == null) {
            return NONE;
        }
        BigInteger all = allProducts(tellings);
        int best = NONE;
        BigInteger least = null;
        for (int t = 0; t < s.tellers.size(); t++) {
            int there = s.tellers.get(t)[0];
            int leg = far(s.now.corner, there);
            if (leg != NONE) {
                BigInteger sum = all.multiply(BigInteger.valueOf(leg + askTime(t)));
                for (int c : likelyCorners(tellings)) {
                    sum = sum.add(product(tellings, c).multiply(BigInteger.valueOf(far(there, c))));
                }
                if (least == null || sum.compareTo(least) < 0) {
                    least = sum;
                    best = t;
                }
            }
        }
        return least == null || mean[0].compareTo(least) <= 0 ? NONE : best;
    }

    private int safe(int telling, int k) {
        Telling t = s.tellings.get(telling);
        int from = s.tellers.get(t.teller)[0];
        List<Integer> first = t.turns.subList(0, k);
        Gone said = gone(from, t.facing, first, 0, false);
        int sum = 0;
        for (int way = 0; way < 8; way++) {
            Gone meant = gone(from, t.facing, first, way, false);
            if (said.all && meant.all && said.corner == meant.corner && said.facing == meant.facing) {
                sum += weight(telling, way);
            }
        }
        return sum;
    }

    int safeSoFar(int telling, int k, boolean low) {
        if (!isTelling(telling) || k < 0 || k > s.tellings.get(telling).turns.size()) {
            return NONE;
        }
        return (int) term(BigInteger.valueOf(safe(telling, k)), BigInteger.valueOf(1000), low);
    }

    int howFar(int telling, int q) {
        if (!isTelling(telling) || q < 1 || q > 100) {
            return NONE;
        }
        int most = NONE;
        for (int k = 0; k <= s.tellings.get(telling).turns.size(); k++) {
            boolean all = true;
            for (int j = 0; j <= k; j++) {
                all &= safe(telling, j) >= 10 * q;
            }
            if (all) {
                most = k;
            }
        }
        return most;
    }

    int lost(int telling, int corner) {
        if (!isTelling(telling) || !isCorner(corner) || s.tellings.get(telling).turns.size() < 2) {
            return NONE;
        }
        Telling t = s.tellings.get(telling);
        for (int i = 0; i < t.turns.size(); i++) {
            List<Integer> fewer = new ArrayList<>(t.turns);
            fewer.remove(i);
            Gone g = gone(s.tellers.get(t.teller)[0], t.facing, fewer, 0, true);
            if (g.all && g.corner == corner) {
                return i;
            }
        }
        return NONE;
    }

    static long listen(int n, int m, int a, int b, boolean low) {
        if (n < 1 || n > 6 || m < 0 || m > 6 || a < 0 || a > 10 || b < 0 || b > 10) {
            return NONE;
        }
        BigInteger best = BigInteger.ZERO;
        for (int one = 0; one < 1 << n; one++) {
            for (int two = 0; two < 1 << n; two++) {
                if (Integer.bitCount(one) <= m && Integer.bitCount(two) <= m) {
                    BigInteger p = BigInteger.ONE;
                    for (int i = 0; i < n; i++) {
                        int first = (one >> i & 1) == 1 ? a : b;
                        int second = (two >> i & 1) == 1 ? a : b;
                        p = p.multiply(BigInteger.valueOf(first * 10 + second * 10 - first * second));
                    }
                    best = best.max(p);
                }
            }
        }
        return term(best, BigInteger.valueOf(100).pow(n), low);
    }

    private boolean leadsToGoal(int corner, int facing, List<Integer> turns, int slips) {
        for (int way = 0; way < 8; way++) {
            if ((way | slips) == slips) {
                Gone g = gone(corner, facing, turns, way, true);
                if (!g.all || g.corner != s.goal) {
                    return false;
                }
            }
        }
        return true;
    }

    private List<Integer> shortest(int corner, int facing, int slips) {
        List<Integer> all = allTurns();
        for (int a : all) {
            if (leadsToGoal(corner, facing, List.of(a), slips)) {
                return List.of(a);
            }
        }
        for (int a : all) {
            for (int b : all) {
                if (leadsToGoal(corner, facing, List.of(a, b), slips)) {
                    return List.of(a, b);
                }
            }
        }
        for (int a : all) {
            for (int b : all) {
                for (int c : all) {
                    if (leadsToGoal(corner, facing, List.of(a, b, c), slips)) {
                        return List.of(a, b, c);
                    }
                }
            }
        }
        return null;
    }

    int tell(int corner, int facing, int slips, int i) {
        if (!isCorner(corner) || facing < 0 || facing > 3 || slips < 0 || slips > 7 || s.goal == NONE) {
            return NONE;
        }
        List<Integer> turns = shortest(corner, facing, slips);
        if (turns == null) {
            return NONE;
        }
        return i == NONE ? turns.size() : i >= 0 && i < turns.size() ? turns.get(i) : NONE;
    }

    int where(int telling, boolean corners) {
        if (!isTelling(telling)) {
            return NONE;
        }
        Gone g = told(telling, 0);
        if (!g.all) {
            return NONE;
        }
        int times = 0;
        int bits = 0;
        int came = s.tellings.get(telling).facing;
        for (int[] street : g.streets) {
            boolean other = false;
            for (int d = 0; d < 4; d++) {
                other |= d != (came + 2) % 4 && d != street[1] && s.corners.get(street[0]).to[d] != NONE;
            }
            if (other) {
                times++;
                bits |= 1 << street[0];
            }
            came = street[1];
        }
        return corners ? bits : times;
    }

    int map(int corner, int n, int directions) {
        if (!isCorner(corner) || n < 1 || n > 8 || directions < 0 || directions >= Math.pow(4, n)) {
            return NONE;
        }
        int bits = 0;
        for (int more = 0; more < 4; more++) {
            int at = corner;
            int rest = directions;
            for (int i = 0; i < n && at != NONE; i++) {
                at = s.corners.get(at).to[(rest % 4 + more) % 4];
                rest /= 4;
            }
            bits |= at == NONE ? 0 : 1 << more;
        }
        return bits;
    }

    private int[] streetsToGoal() {
        int n = s.corners.size();
        int[] count = new int[n];
        Arrays.fill(count, 1000);
        count[s.goal] = 0;
        for (int round = 0; round < n; round++) {
            for (int c = 0; c < n; c++) {
                for (int to : s.corners.get(c).to) {
                    if (to != NONE) {
                        count[c] = Math.min(count[c], count[to] + 1);
                    }
                }
            }
        }
        return count;
    }

    private boolean comesToGoal(int corner, int facing, int set, int[] count) {
        int at = corner;
        int f = facing;
        for (int i = 0; i < 200 && at != s.goal; i++) {
            Corner c = s.corners.get(at);
            int go = NONE;
            if ((set >> at & 1) == 1) {
                for (int d = 3; d >= 0; d--) {
                    if (c.to[d] != NONE && count[c.to[d]] == count[at] - 1) {
                        go = d;
                    }
                }
            } else {
                for (int d : new int[] {(f + 2) % 4, (f + 3) % 4, (f + 1) % 4, f}) {
                    if (c.to[d] != NONE) {
                        go = d;
                    }
                }
            }
            at = c.to[go];
            f = go;
        }
        return at == s.goal;
    }

    int signs() {
        if (s.goal == NONE) {
            return NONE;
        }
        int[] count = streetsToGoal();
        for (int size = 0; size <= 4; size++) {
            for (int set = 0; set < 1 << s.corners.size(); set++) {
                if (Integer.bitCount(set) == size && (set >> s.goal & 1) == 0 && serves(set, count)) {
                    return set;
                }
            }
        }
        return NONE;
    }

    private boolean serves(int set, int[] count) {
        for (int c : members(set)) {
            if (count[c] >= 1000) {
                return false;
            }
        }
        for (int c = 0; c < s.corners.size(); c++) {
            for (int f = 0; f < 4 && count[c] < 1000; f++) {
                if (!comesToGoal(c, f, set, count)) {
                    return false;
                }
            }
        }
        return true;
    }

    int whose(int telling, int corner, int slip, boolean low) {
        if (!isTelling(telling) || !isCorner(corner) || !List.of(1, 2, 4).contains(slip)) {
            return NONE;
        }
        int upper = 0;
        for (int way = 0; way < 8; way++) {
            if ((way & slip) != 0 && leads(telling, way) == corner) {
                upper += weight(telling, way);
            }
        }
        int lower = likely(telling, corner);
        return lower == 0 ? NONE : (int) term(BigInteger.valueOf(upper), BigInteger.valueOf(lower), low);
    }

    int heard(int corner) {
        if (!isCorner(corner)) {
            return NONE;
        }
        int bits = 0;
        for (int t = 0; t < s.tellings.size(); t++) {
            bits |= likely(t, corner) > 0 ? 1 << t : 0;
        }
        return bits;
    }

    int image() {
        kept = s.copy();
        return s.corners.size();
    }

    int back() {
        s = kept.copy();
        return s.corners.size();
    }

    int about(int what) {
        switch (what) {
            case 0: return s.corners.size();
            case 1: return s.goal;
            case 2: return s.tellers.size();
            case 3: return s.tellings.size();
            case 4: return s.now.x;
            case 5: return s.texts.size();
            case 6: return s.theText;
            case 7: return s.steps.size();
            case 8: return tape.size();
            default: return -2;
        }
    }
}
