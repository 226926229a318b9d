import java.util.ArrayList;
import java.util.List;
import java.util.function.Function;
import java.util.function.Supplier;
import java.util.function.ToLongFunction;

/**
 * Refused calls answer as they should and change nothing, and no question changes anything. Each is asked
 * of one of two towns that were made alike; then both must be alike in all that can be seen: as they are,
 * step by step taken back, back to their image, and by the text on their tape.
 */
public final class RefusedTest extends Towns {
    private static final int[] FAR = {LEAST, LEAST + 1, -1000, 1000, GREATEST};
    private static int calls = 0;

    public static void main(String[] args) throws ReflectiveOperationException {
        runAll(RefusedTest.class, 14);
        due("enough calls were tried", calls >= 700, true);
        endOfTest("refused calls and questions change nothing: " + calls + " of them");
    }

    // ---- three towns

    private static SecondLeft empty() {
        SecondLeft x = new SecondLeft();
        put(x, "corner 3;");
        return x;
    }

    /** Something of everything, but nothing is full: the image is older, there are steps, a fault, a tape. */
    private static SecondLeft some() {
        SecondLeft x = told(101, 312);
        read(x, "pace 3+narrow;");
        x.start(0, 1);
        x.walk(1);
        x.goal(4);
        x.image();
        x.teller(1, 1, 2, 3);
        x.telling(1, 0, 101102103, 304);
        x.corner(5);
        x.goal(5);
        read(x, "asks who+asked;swaps told;");
        x.by(1);
        read(x, "goal 0;pace who;");
        x.ask(1);
        x.day(5, 7);
        x.start(1, 1);
        x.ask(1);
        x.turn(2);
        x.turn(1);
        x.follow(1);
        x.start(1, 1);
        put(x, "corner 2;goal 1;");
        return x;
    }

    /** As much as there can be of everything. */
    private static SecondLeft full() {
        SecondLeft x = new SecondLeft();
        for (int i = 0; i < 16; i++) {
            x.corner(i % 6);
        }
        for (int i = 0; i < 16; i++) {
            x.street(i, 1, (i + 1) % 16, i % 5 == 0);
        }
        x.street(3, 0, 9, true);
        x.goal(15);
        x.start(2, 1);
        x.image();
        for (int i = 0; i < 6; i++) {
            x.teller(3 * i, i, 10 - i, 5);
        }
        for (int i = 0; i < 8; i++) {
            x.telling(i % 6, i % 4, 301312, 0);
        }
        for (int i = 0; i < 4; i++) {
            x.text();
        }
        x.by(3);
        x.walk(20);
        x.ask(2);
        x.walk(11);
        put(x, "corner 2;" + " ".repeat(291));
        return x;
    }

    // ---- what can be seen

    private static List<Long> looks(SecondLeft x) {
        List<Long> all = new ArrayList<>();
        for (int i = 0; i <= 8; i++) {
            all.add((long) x.about(i));
        }
        all.add((long) x.fault(0));
        all.add((long) x.fault(1));
        int corners = x.about(0);
        int tellers = x.about(2);
        int tellings = x.about(3);
        for (int c = 0; c < corners; c++) {
            for (int what = 0; what <= 8; what++) {
                all.add((long) x.ofCorner(c, what));
            }
        }
        for (int t = 0; t < tellers; t++) {
            for (int what = 0; what <= 4; what++) {
                all.add((long) x.ofTeller(t, what));
            }
        }
        for (int t = 0; t < tellings; t++) {
            for (int what : new int[] {0, 1, 2, 3, 4, 5, 10, 11, 12, 13}) {
                all.add((long) x.ofTelling(t, what));
            }
        }
        return all;
    }

    private static List<Long> history(SecondLeft x) {
        List<Long> all = new ArrayList<>();
        for (int i = 0; i < 31; i++) {
            all.add((long) x.walker(0));
            all.add((long) x.walker(1));
            all.add((long) x.walker(2));
            all.add((long) x.undo());
        }
        all.add((long) x.about(4));
        return all;
    }

    /** How the image was, and what stands on the tape: a text that can be read and played. */
    private static List<Long> imageAndTape(SecondLeft x) {
        List<Long> all = new ArrayList<>();
        all.add((long) x.back());
        all.addAll(looks(x));
        all.add((long) x.undo());
        all.add((long) x.walker(0));
        all.add((long) x.text());
        all.add((long) x.fault(0));
        all.add((long) x.played(x.about(5) - 1));
        all.add((long) x.about(0));
        all.add((long) x.about(1));
        return all;
    }

    private interface Call extends ToLongFunction<SecondLeft> {
    }

    /** Both twins look alike after one of them was asked; each look has twins of its own, of 512 calls at most. */
    private static void alike(String call, Supplier<SecondLeft> town, Call asked) {
        calls++;
        List<Function<SecondLeft, List<Long>>> all = List.of(RefusedTest::looks, RefusedTest::history,
                RefusedTest::imageAndTape);
        for (int i = 0; i < all.size(); i++) {
            SecondLeft x = town.get();
            asked.applyAsLong(x);
            String what = i == 0 ? " changes nothing" : i == 1 ? " changes no step" : " changes neither image nor tape";
            due(call + what, all.get(i).apply(x).equals(all.get(i).apply(town.get())), true);
        }
    }

    private static void refused(String call, Supplier<SecondLeft> town, long due, Call asked) {
        due(call, asked.applyAsLong(town.get()), due);
        alike(call, town, asked);
    }

    private static long number(boolean answer) {
        return answer ? 1 : 0;
    }

    /** The first values below and above what is allowed, and the farthest. */
    private static List<Integer> outside(int low, int high) {
        List<Integer> all = new ArrayList<>(List.of(low - 1, high + 1));
        for (int far : FAR) {
            if (far < low || far > high) {
                all.add(far);
            }
        }
        return all;
    }

    // ---- refused for their numbers

    private static void whatIsTold() {
        for (int v : outside(0, 5)) {
            refused("corner(" + v + ")", RefusedTest::some, -1, x -> x.corner(v));
        }
        for (int v : outside(0, 6)) {
            refused("street(" + v + ", 0, 0)", RefusedTest::some, 0, x -> number(x.street(v, 0, 0, false)));
            refused("street(0, 0, " + v + ")", RefusedTest::some, 0, x -> number(x.street(0, 0, v, true)));
            refused("teller(" + v + ")", RefusedTest::some, -1, x -> x.teller(v, 0, 0, 0));
        }
        for (int v : outside(0, 3)) {
            refused("street(6, " + v + ", 0)", RefusedTest::some, 0, x -> number(x.street(6, v, 0, false)));
            refused("telling(0, " + v + ")", RefusedTest::some, -1, x -> x.telling(0, v, 101, 0));
        }
        for (int v : outside(-1, 6)) {
            refused("goal(" + v + ")", RefusedTest::some, 0, x -> number(x.goal(v)));
        }
        for (int v : outside(0, 10)) {
            refused("teller(0, " + v + ", 0, 0)", RefusedTest::some, -1, x -> x.teller(0, v, 0, 0));
            refused("teller(0, 0, " + v + ", 0)", RefusedTest::some, -1, x -> x.teller(0, 0, v, 0));
            refused("teller(0, 0, 0, " + v + ")", RefusedTest::some, -1, x -> x.teller(0, 0, 0, v));
        }
        for (int v : outside(0, 1)) {
            refused("telling(" + v + ")", RefusedTest::some, -1, x -> x.telling(v, 0, 101, 0));
        }
        refused("a street to itself", RefusedTest::some, 0, x -> number(x.street(6, 0, 6, false)));
        refused("a street that is there", RefusedTest::some, 0, x -> number(x.street(0, 1, 6, true)));
        refused("a street that is there from the other", RefusedTest::some, 0, x -> number(x.street(6, 1, 1, true)));
    }

    private static void turnsThatAreNone() {
        int[] bad = {LEAST, -101, -1, 1, 99, 100, 105, 110, 116, 120, 401, 999, 1101, 100101, 101100, 101405, 101101100,
            100101101, 999999999, 1101101101, GREATEST};
        for (int v : bad) {
            refused("telling of " + v, RefusedTest::some, -1, x -> x.telling(0, 0, v, 0));
            refused("telling with others " + v, RefusedTest::some, -1, x -> x.telling(0, 0, 101102103, v));
        }
        refused("no turn", RefusedTest::some, -1, x -> x.telling(0, 0, 0, 0));
        refused("no turn but others", RefusedTest::some, -1, x -> x.telling(0, 0, 0, 101));
        refused("others behind one", RefusedTest::some, -1, x -> x.telling(0, 0, 101, 101));
        refused("others behind two", RefusedTest::some, -1, x -> x.telling(0, 0, 101101, 101));
    }

    private static void theTape() {
        for (int v : outside(0, 16)) {
            refused("end(" + v + ")", RefusedTest::some, -1, x -> x.end(v));
        }
        for (int v : outside(0, 300)) {
            refused("end(" + v + ")", RefusedTest::full, -1, x -> x.end(v));
        }
        refused("feed of a full tape", RefusedTest::full, -1, x -> x.feed(-1, -1, -1, -1, -1));
        refused("the fifth text", RefusedTest::full, -1, x -> x.text());
        refused("the fifth text, again", RefusedTest::full, -1, x -> x.text() + x.text() - x.text());
        for (int v : outside(-1, 1)) {
            refused("by(" + v + ")", RefusedTest::some, 0, x -> number(x.by(v)));
        }
        for (int v : outside(0, 1)) {
            refused("played(" + v + ")", RefusedTest::some, -2, x -> x.played(v));
        }
        // all that there is stays, when the tape is cut to its own length
        alike("end(300)", RefusedTest::full, x -> x.end(300));
    }

    private static void oneWhoWalks() {
        for (int v : outside(0, 6)) {
            refused("start(" + v + ", 0)", RefusedTest::some, 0, x -> number(x.start(v, 0)));
        }
        for (int v : outside(0, 3)) {
            refused("start(0, " + v + ")", RefusedTest::some, 0, x -> number(x.start(0, v)));
        }
        for (int v : outside(1, 20)) {
            refused("walk(" + v + ")", RefusedTest::some, -1, x -> x.walk(v));
            refused("walk(" + v + ")", RefusedTest::full, -1, x -> x.walk(v));
        }
        refused("a street farther than can be", RefusedTest::some, -1, x -> x.walk(3));
        refused("as far as can be told", RefusedTest::some, -1, x -> x.walk(20));
        for (int v : outside(1, 3)) {
            refused("turn(" + v + ")", RefusedTest::some, -1, x -> x.turn(v));
        }
        for (int v : outside(0, 1)) {
            refused("ask(" + v + ")", RefusedTest::some, -1, x -> x.ask(v));
        }
        refused("who isn't there", RefusedTest::some, -1, x -> x.ask(0));
        for (int v : outside(0, 2)) {
            refused("follow(" + v + ")", RefusedTest::some, -1, x -> x.follow(v));
        }
        for (int v : outside(0, 9999)) {
            if (v < 0 || v > 9999) {
                refused("day(" + v + ", 1)", RefusedTest::some, -1, x -> x.day(v, 1));
            }
        }
        for (int v : outside(1, 30)) {
            refused("day(0, " + v + ")", RefusedTest::some, -1, x -> x.day(0, v));
        }
    }

    // ---- refused for what there is

    private static void nothingIsThere() {
        refused("street", RefusedTest::empty, 0, x -> number(x.street(0, 0, 1, false)));
        refused("goal", RefusedTest::empty, 0, x -> number(x.goal(0)));
        refused("teller", RefusedTest::empty, -1, x -> x.teller(0, 0, 0, 0));
        refused("telling", RefusedTest::empty, -1, x -> x.telling(0, 0, 101, 0));
        refused("by", RefusedTest::empty, 0, x -> number(x.by(0)));
        refused("start", RefusedTest::empty, 0, x -> number(x.start(0, 0)));
        refused("walk", RefusedTest::empty, -1, x -> x.walk(1));
        refused("turn", RefusedTest::empty, -1, x -> x.turn(1));
        refused("ask", RefusedTest::empty, -1, x -> x.ask(0));
        refused("follow", RefusedTest::empty, -1, x -> x.follow(0));
        refused("played", RefusedTest::empty, -2, x -> x.played(0));
        refused("day", RefusedTest::empty, -1, x -> x.day(0, 1));
        refused("undo", RefusedTest::empty, -1, x -> x.undo());
        refused("fault(0)", RefusedTest::empty, -1, x -> x.fault(0));
        refused("fault(1)", RefusedTest::empty, -1, x -> x.fault(1));
    }

    private static void nobodyIsThere() {
        Supplier<SecondLeft> town = () -> told(101, 312);
        refused("walk", town, -1, x -> x.walk(1));
        refused("turn", town, -1, x -> x.turn(1));
        refused("ask", town, -1, x -> x.ask(0));
        refused("follow", town, -1, x -> x.follow(0));
        refused("undo", town, -1, x -> x.undo());
        for (int what = 0; what <= 2; what++) {
            int of = what;
            refused("walker(" + what + ")", town, -1, x -> x.walker(of));
        }
        refused("see", town, -1, x -> x.see(1, 0));
        refused("orAsk", town, -1, x -> x.orAsk(1));
    }

    private static void allIsFull() {
        for (int sight = 0; sight <= 5; sight++) {
            int of = sight;
            refused("the 17th corner", RefusedTest::full, -1, x -> x.corner(of));
        }
        refused("the 7th teller", RefusedTest::full, -1, x -> x.teller(0, 0, 0, 0));
        refused("the 7th teller", RefusedTest::full, -1, x -> x.teller(15, 10, 10, 10));
        refused("the 9th telling", RefusedTest::full, -1, x -> x.telling(0, 0, 101, 0));
        refused("the 9th telling", RefusedTest::full, -1, x -> x.telling(5, 3, 315315315, 315315315));
    }

    // ---- questions refused

    private static void questionsOfOneThing() {
        for (int v : outside(0, 1)) {
            refused("fault(" + v + ")", RefusedTest::some, -1, x -> x.fault(v));
        }
        for (int v : outside(0, 2)) {
            refused("walker(" + v + ")", RefusedTest::some, -1, x -> x.walker(v));
        }
        for (int v : outside(0, 6)) {
            refused("ofCorner(" + v + ", 0)", RefusedTest::some, -2, x -> x.ofCorner(v, 0));
        }
        for (int v : outside(0, 8)) {
            refused("ofCorner(0, " + v + ")", RefusedTest::some, -2, x -> x.ofCorner(0, v));
            refused("about(" + v + ")", RefusedTest::some, -2, x -> x.about(v));
        }
        for (int v : outside(0, 1)) {
            refused("ofTeller(" + v + ", 0)", RefusedTest::some, -1, x -> x.ofTeller(v, 0));
        }
        for (int v : outside(0, 4)) {
            refused("ofTeller(0, " + v + ")", RefusedTest::some, -1, x -> x.ofTeller(0, v));
        }
        for (int v : outside(0, 2)) {
            refused("ofTelling(" + v + ", 0)", RefusedTest::some, -1, x -> x.ofTelling(v, 0));
        }
        for (int v : outside(0, 5)) {
            refused("ofTelling(2, " + v + ")", RefusedTest::some, -1, x -> x.ofTelling(2, v));
        }
        for (int v : new int[] {6, 7, 8, 9, 14, 15, 16}) {
            refused("ofTelling(2, " + v + ")", RefusedTest::some, -1, x -> x.ofTelling(2, v));
        }
    }

    private static void questionsOfTellings() {
        for (int v : outside(0, 2)) {
            refused("leads(" + v + ")", RefusedTest::some, -1, x -> x.leads(v, 0));
            refused("likely(" + v + ")", RefusedTest::some, -1, x -> x.likely(v, 0));
            refused("safeSoFar(" + v + ")", RefusedTest::some, -1, x -> x.safeSoFar(v, 0, false));
            refused("howFar(" + v + ")", RefusedTest::some, -1, x -> x.howFar(v, 1));
            refused("lost(" + v + ")", RefusedTest::some, -1, x -> x.lost(v, 0));
            refused("where(" + v + ")", RefusedTest::some, -1, x -> x.where(v, false));
            refused("whose(" + v + ")", RefusedTest::some, -1, x -> x.whose(v, 4, 1, true));
        }
        for (int v : outside(0, 7)) {
            refused("leads(0, " + v + ")", RefusedTest::some, -1, x -> x.leads(0, v));
        }
        for (int v : outside(-1, 6)) {
            refused("likely(0, " + v + ")", RefusedTest::some, -1, x -> x.likely(0, v));
        }
        for (int v : outside(0, 4)) {
            refused("safeSoFar(2, " + v + ")", RefusedTest::some, -1, x -> x.safeSoFar(2, v, true));
        }
        for (int v : outside(1, 100)) {
            refused("howFar(0, " + v + ")", RefusedTest::some, -1, x -> x.howFar(0, v));
        }
        for (int v : outside(0, 6)) {
            refused("lost(2, " + v + ")", RefusedTest::some, -1, x -> x.lost(2, v));
            refused("whose(0, " + v + ")", RefusedTest::some, -1, x -> x.whose(0, v, 2, true));
            refused("heard(" + v + ")", RefusedTest::some, -1, x -> x.heard(v));
        }
        for (int v : new int[] {LEAST, -4, -2, -1, 0, 3, 5, 6, 7, 8, GREATEST}) {
            refused("whose(0, 4, " + v + ")", RefusedTest::some, -1, x -> x.whose(0, 4, v, true));
        }
    }

    private static void questionsOfSets() {
        for (int v : outside(1, 7)) {
            refused("byAll(" + v + ")", RefusedTest::some, -1, x -> x.byAll(v, 0, true));
            refused("wrong(" + v + ")", RefusedTest::some, -1, x -> x.wrong(v, false));
            refused("wrong(" + v + "), corner", RefusedTest::some, -1, x -> x.wrong(v, true));
            refused("see(" + v + ")", RefusedTest::some, -1, x -> x.see(v, 0));
            refused("orAsk(" + v + ")", RefusedTest::some, -1, x -> x.orAsk(v));
        }
        for (int v : outside(0, 6)) {
            refused("byAll(1, " + v + ")", RefusedTest::some, -1, x -> x.byAll(1, v, true));
        }
        for (int v : new int[] {31, 62, 124, 248, 255, 256}) {
            refused("byAll(" + v + ")", RefusedTest::full, -1, x -> x.byAll(v, 0, true));
            refused("see(" + v + ")", RefusedTest::full, -1, x -> x.see(v, -1));
            refused("orAsk(" + v + ")", RefusedTest::full, -1, x -> x.orAsk(v));
        }
        for (int v : outside(-2, 1)) {
            refused("see(1, " + v + ")", RefusedTest::some, -1, x -> x.see(1, v));
        }
        for (int v : new int[] {LEAST, -2, 28, GREATEST}) {
            refused("clash(" + v + ")", RefusedTest::full, -1, x -> x.clash(v));
        }
    }

    private static void questionsOfTheTown() {
        for (int v : outside(0, 6)) {
            refused("far(" + v + ", 0)", RefusedTest::some, -1, x -> x.far(v, 0));
            refused("far(0, " + v + ")", RefusedTest::some, -1, x -> x.far(0, v));
            refused("tell(" + v + ")", RefusedTest::some, -1, x -> x.tell(v, 1, 0, -1));
            refused("map(" + v + ")", RefusedTest::some, -1, x -> x.map(v, 1, 0));
        }
        for (int v : outside(0, 3)) {
            refused("tell(0, " + v + ")", RefusedTest::some, -1, x -> x.tell(0, v, 0, -1));
        }
        for (int v : outside(0, 7)) {
            refused("tell(0, 1, " + v + ")", RefusedTest::some, -1, x -> x.tell(0, 1, v, -1));
        }
        for (int v : outside(-1, 0)) {
            refused("tell(0, 1, 0, " + v + ")", RefusedTest::some, -1, x -> x.tell(0, 1, 0, v));
        }
        for (int v : outside(1, 8)) {
            refused("map(0, " + v + ")", RefusedTest::some, -1, x -> x.map(0, v, 0));
        }
        for (int v : outside(0, 15)) {
            refused("map(0, 2, " + v + ")", RefusedTest::some, -1, x -> x.map(0, 2, v));
        }
        int[] good = {3, 3, 5, 5};
        int[] low = {1, 0, 0, 0};
        int[] high = {6, 6, 10, 10};
        for (int which = 0; which < 4; which++) {
            for (int v : outside(low[which], high[which])) {
                int[] of = good.clone();
                of[which] = v;
                refused("listen with " + v, RefusedTest::some, -1, x -> x.listen(of[0], of[1], of[2], of[3], true));
            }
        }
        Supplier<SecondLeft> noGoal = () -> told(101);
        refused("tell without a goal", noGoal, -1, x -> x.tell(0, 1, 0, -1));
        refused("signs without a goal", noGoal, -1, x -> x.signs());
    }

    // ---- all that follows changes nothing

    private static void questions(String name, Supplier<SecondLeft> town, int corners, int tellings, int sets) {
        for (int slips = 0; slips < 8; slips++) {
            int of = slips;
            alike(name + " tell", town, x -> x.tell(0, 1, of, -1) + x.tell(1, 0, of, 0));
        }
        for (int set = 1; set < sets; set += 1 + set / 16) {
            int of = set;
            alike(name + " set " + set, town, x -> x.byAll(of, 0, false) + x.byAll(of, 0, true) + x.wrong(of, false)
                    + x.wrong(of, true) + x.see(of, -1) + x.see(of, -2) + x.see(of, 0) + x.orAsk(of));
        }
        for (int telling = 0; telling < tellings; telling++) {
            int of = telling;
            alike(name + " telling " + telling, town, x -> x.leads(of, 0) + x.leads(of, 7) + x.likely(of, -1)
                    + x.safeSoFar(of, 1, false) + x.howFar(of, 50) + x.lost(of, 1) + x.where(of, false)
                    + x.where(of, true) + x.whose(of, 4, 1, false) + x.whose(of, 5, 2, true) + x.ofTelling(of, 3));
        }
        for (int corner = 0; corner < corners; corner++) {
            int of = corner;
            alike(name + " corner " + corner, town, x -> x.heard(of) + x.far(0, of) + x.far(of, 1) + x.map(of, 2, 5)
                    + x.ofCorner(of, 1));
        }
        alike(name + " the rest", town, x -> x.clash(-1) + x.clash(0) + x.signs() + x.listen(6, 3, 9, 1, true)
                + x.fault(0) + x.fault(1) + x.walker(2) + x.about(0) + x.ofTeller(0, 4));
    }

    private static void questionsOfSome() {
        questions("some:", RefusedTest::some, 7, 3, 8);
    }

    private static void questionsOfFull() {
        questions("full:", RefusedTest::full, 16, 8, 256);
    }

    private static void questionsOfEmpty() {
        questions("empty:", RefusedTest::empty, 1, 1, 3);
    }
}
