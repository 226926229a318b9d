import java.lang.reflect.InvocationTargetException;
import java.lang.reflect.Method;
import java.lang.reflect.Modifier;
import java.util.ArrayList;
import java.util.Arrays;
import java.util.HashMap;
import java.util.List;
import java.util.Map;
import java.util.Random;

/** Random runs of calls, asked of the class and of PlainTown alike. */
public final class AgainstPlainTest {
    private static final int RUNS = 1200;
    private static final Map<String, Method> OURS = new HashMap<>();
    private static final Map<String, Method> PLAIN = new HashMap<>();
    private static int wrong = 0;

    private final Random random;
    private final SecondLeft ours = new SecondLeft();
    private final PlainTown plain = new PlainTown();
    private final List<String> log = new ArrayList<>();
    private int calls = 0;
    private boolean failed = false;
    private static final Map<String, Integer> COUNTED = new HashMap<>();
    private static final Map<String, Integer> TELLING_SOMETHING = new HashMap<>();

    private AgainstPlainTest(long seed) {
        random = new Random(seed);
    }

    public static void main(String[] args) throws Exception {
        for (Method m : SecondLeft.class.getDeclaredMethods()) {
            if (Modifier.isPublic(m.getModifiers())) {
                OURS.put(m.getName(), m);
                PLAIN.put(m.getName(), PlainTown.class.getDeclaredMethod(m.getName(), m.getParameterTypes()));
            }
        }
        long first = args.length > 0 ? Long.parseLong(args[0]) : 1;
        long runs = args.length > 1 ? Long.parseLong(args[1]) : RUNS;
        for (long seed = first; seed < first + runs && wrong < 5; seed++) {
            new AgainstPlainTest(seed).run(seed);
        }
        for (String name : new java.util.TreeSet<>(OURS.keySet())) {
            int asked = COUNTED.getOrDefault(name, 0);
            int told = TELLING_SOMETHING.getOrDefault(name, 0);
            if (args.length > 2) {
                System.out.println(name + " " + asked + " " + told);
            }
            if (runs >= RUNS && told < 10) {
                wrong++;
                System.out.println("the runs ask too little of " + name + ": " + told + " of " + asked);
            }
        }
        System.out.println(wrong == 0 ? "both answer alike" : wrong + " runs differ");
        if (wrong != 0) {
            System.exit(1);
        }
    }

    private void run(long seed) throws Exception {
        int most = random.nextInt(8) == 0 ? 500 : 150;
        if (random.nextInt(3) == 0) {
            build();
            if (random.nextInt(2) == 0) {
                call("image");
            }
        }
        if (random.nextInt(3) != 0) {
            giveText();
        }
        build();
        while (calls < most && !failed) {
            int kind = random.nextInt(60);
            if (random.nextInt(25) == 0) {
                anything();
            } else if (kind == 0) {
                giveText();
            } else if (kind == 1) {
                changeTown();
            } else if (kind < 12) {
                move();
            } else {
                question();
            }
        }
        if (failed) {
            wrong++;
            System.out.println("seed " + seed + ":");
            for (String line : log) {
                System.out.println("  " + line);
            }
        }
    }

    private long call(String name, Object... args) throws Exception {
        if (failed || calls >= 512) {
            return SecondLeft.NONE;
        }
        calls++;
        Object got;
        try {
            got = OURS.get(name).invoke(ours, args);
        } catch (InvocationTargetException e) {
            got = e.getCause().toString();
        }
        Object want = PLAIN.get(name).invoke(plain, args);
        String line = name + Arrays.toString(args) + " " + got;
        if (!got.equals(want)) {
            failed = true;
            line += ", but PlainTown says " + want;
        }
        log.add(line);
        long told = want instanceof Boolean ? ((Boolean) want ? 1 : 0) : ((Number) want).longValue();
        COUNTED.merge(name, 1, Integer::sum);
        if (want instanceof Boolean ? told > 0 : told >= 0) {
            TELLING_SOMETHING.merge(name, 1, Integer::sum);
        }
        return told;
    }

    // ---- arguments, now and then beyond what is told

    private int about(int count) {
        int dice = random.nextInt(40);
        if (dice == 0) {
            return -1 - random.nextInt(3);
        }
        if (dice == 1) {
            return count + random.nextInt(3);
        }
        if (dice == 2 && random.nextInt(5) == 0) {
            return new int[] {Integer.MIN_VALUE, Integer.MAX_VALUE, 1 << 30, -1 << 20, 65536, 256}[random.nextInt(6)];
        }
        return count <= 0 ? 0 : random.nextInt(count);
    }

    private int corners() {
        return plain.about(0);
    }

    private int tellings() {
        return plain.about(3);
    }

    private int corner() {
        return about(corners());
    }

    private int telling() {
        return about(tellings());
    }

    private int aTurn() {
        List<Integer> all = PlainTown.allTurns();
        if (random.nextInt(60) == 0) {
            return random.nextInt(400);
        }
        if (random.nextInt(2) == 0) {
            return 100 * (1 + random.nextInt(3)) + 1 + random.nextInt(2);
        }
        return all.get(random.nextInt(all.size()));
    }

    private int someTurns(int count) {
        int packed = 0;
        for (int i = 0; i < count; i++) {
            packed = 1000 * packed + aTurn();
        }
        return packed;
    }

    private int someSet(int most) {
        if (random.nextInt(20) == 0 || tellings() == 0) {
            return random.nextInt(300) - 10;
        }
        int set = 0;
        int count = 1 + random.nextInt(most);
        for (int i = 0; i < count; i++) {
            set |= 1 << random.nextInt(tellings());
        }
        return set;
    }

    private boolean coin() {
        return random.nextBoolean();
    }

    private static final int[] STRANGE = {Integer.MIN_VALUE, Integer.MIN_VALUE + 1, -1000000, -17, -3, -2, -1, 0, 1, 2, 3,
        4, 5, 6, 7, 8, 9, 10, 15, 16, 17, 31, 32, 63, 64, 255, 256, 300, 1000, 65535, 65536, 1 << 30, Integer.MAX_VALUE};

    /** Any call with any numbers. */
    private void anything() throws Exception {
        List<String> names = new ArrayList<>(new java.util.TreeSet<>(OURS.keySet()));
        Method m = OURS.get(names.get(random.nextInt(names.size())));
        Object[] args = new Object[m.getParameterCount()];
        for (int i = 0; i < args.length; i++) {
            if (m.getParameterTypes()[i] == boolean.class) {
                args[i] = coin();
            } else {
                args[i] = random.nextInt(5) == 0 ? random.nextInt() : STRANGE[random.nextInt(STRANGE.length)];
            }
        }
        call(m.getName(), args);
    }

    // ---- building

    private void build() throws Exception {
        switch (random.nextInt(5)) {
            case 0: grid(false); break;
            case 1: grid(true); break;
            case 2: ring(); break;
            case 3: star(); break;
            default: wild(); break;
        }
        if (random.nextInt(6) != 0) {
            call("goal", corner());
        }
        int tellers = 1 + random.nextInt(6);
        boolean unsure = random.nextInt(3) == 0;
        for (int i = 0; i < tellers; i++) {
            if (unsure) {
                call("teller", corner(), 3 + random.nextInt(5), 3 + random.nextInt(5), 3 + random.nextInt(5));
            } else {
                call("teller", corner(), often(), often(), often());
            }
        }
        int tellings = 1 + random.nextInt(9);
        for (int i = 0; i < tellings; i++) {
            if (random.nextInt(5) == 0) {
                addTelling();
            } else {
                addGoodTelling();
            }
        }
        if (random.nextInt(3) == 0 && plain.about(2) > 0) {
            call("start", plain.ofTeller(random.nextInt(plain.about(2)), 0), about(4));
        } else if (random.nextInt(4) != 0) {
            call("start", corner(), about(4));
        }
    }

    private int often() {
        return random.nextInt(3) == 0 ? 0 : about(random.nextInt(4) == 0 ? 11 : 6);
    }

    private void addTelling() throws Exception {
        int count = 1 + random.nextInt(random.nextInt(3) == 0 ? 6 : 3);
        int first = someTurns(Math.min(3, count));
        int more = count > 3 || random.nextInt(30) == 0 ? someTurns(Math.max(1, count - 3)) : 0;
        if (random.nextInt(60) == 0) {
            first = random.nextInt();
        }
        call("telling", about(plain.about(2)), about(4), first, more);
    }

    /** A telling that leads somewhere, if one is found. */
    private void addGoodTelling() throws Exception {
        List<Integer> all = PlainTown.allTurns();
        for (int tries = 0; tries < 60 && plain.about(2) > 0; tries++) {
            int teller = random.nextInt(plain.about(2));
            int facing = random.nextInt(4);
            List<Integer> turns = new ArrayList<>();
            for (int i = random.nextInt(random.nextInt(4) == 0 ? 6 : 3); i >= 0; i--) {
                turns.add(all.get(random.nextInt(all.size())));
            }
            if (plain.canBeGone(plain.ofTeller(teller, 0), facing, turns)) {
                int[] packed = new int[2];
                for (int i = 0; i < turns.size(); i++) {
                    packed[i / 3] = 1000 * packed[i / 3] + turns.get(i);
                }
                call("telling", teller, facing, packed[0], packed[1]);
                return;
            }
        }
    }

    private int sight() {
        return random.nextInt(2) == 0 ? 0 : about(random.nextInt(2) == 0 ? 3 : 6);
    }

    private void grid(boolean around) throws Exception {
        int from = corners();
        int wide = 2 + random.nextInt(3);
        int high = 2 + random.nextInt(3);
        for (int i = 0; i < wide * high; i++) {
            call("corner", sight());
        }
        int gone = random.nextInt(3);
        int narrow = 2 + random.nextInt(4);
        for (int y = 0; y < high; y++) {
            for (int x = 0; x < wide; x++) {
                if ((around || x + 1 < wide) && random.nextInt(6) >= gone) {
                    call("street", from + y * wide + x, 1, from + y * wide + (x + 1) % wide, random.nextInt(narrow) == 0);
                }
                if ((around || y + 1 < high) && random.nextInt(6) >= gone) {
                    call("street", from + y * wide + x, 2, from + (y + 1) % high * wide + x, random.nextInt(narrow) == 0);
                }
            }
        }
    }

    private void ring() throws Exception {
        int from = corners();
        int count = 3 + random.nextInt(13);
        int around = 2 + random.nextInt(count - 1);
        for (int i = 0; i < count; i++) {
            call("corner", sight());
        }
        int direction = random.nextInt(4);
        for (int i = 0; i < around; i++) {
            call("street", from + i, direction, from + (i + 1) % around, random.nextInt(5) == 0);
        }
        for (int i = around; i < count; i++) {
            call("street", from + random.nextInt(around), (direction + 1 + 2 * random.nextInt(2)) % 4, from + i,
                    random.nextInt(3) == 0);
        }
    }

    /** Long arms, a teller who swaps in the middle and one who walks there: it can be worth while to ask. */
    private void star() throws Exception {
        int middle = corners();
        call("corner", sight());
        int foot = corners();
        call("corner", sight());
        call("street", foot, 0, middle, false);
        for (int d = 0; d < 4; d++) {
            int last = middle;
            for (int i = random.nextInt(5); i > 0; i--) {
                int next = corners();
                call("corner", i == 1 ? 4 : sight());
                call("street", last, d, next, random.nextInt(5) == 0);
                last = next;
            }
        }
        call("teller", foot, 5, random.nextInt(3), random.nextInt(3));
        call("teller", middle, 4, 0, 0);
        call("telling", plain.about(2) - 2, 0, 101000 + 300 + (coin() ? 14 : 1 + random.nextInt(3)), 0);
        call("start", coin() ? foot : middle, about(4));
        call("orAsk", 1 << Math.max(0, tellings() - 1));
    }

    private void wild() throws Exception {
        int count = 1 + random.nextInt(16);
        for (int i = 0; i < count; i++) {
            call("corner", sight());
        }
        int streets = random.nextInt(40);
        for (int i = 0; i < streets; i++) {
            call("street", corner(), about(4), corner(), random.nextInt(4) == 0);
        }
    }

    private void changeTown() throws Exception {
        switch (random.nextInt(8)) {
            case 0: call("corner", sight()); break;
            case 1: call("street", corner(), about(4), corner(), coin()); break;
            case 2: call("goal", random.nextInt(8) == 0 ? -1 : corner()); break;
            case 3: call("teller", corner(), often(), often(), often()); break;
            case 4: call("image"); break;
            case 5: call("back"); break;
            case 6: addGoodTelling(); break;
            default: addTelling(); break;
        }
    }

    // ---- the walker

    private void move() throws Exception {
        switch (random.nextInt(9)) {
            case 0: call("start", corner(), about(4)); break;
            case 1: call("walk", random.nextInt(3) == 0 ? about(21) : 1); break;
            case 2: call("turn", random.nextInt(10) == 0 ? about(6) : 1 + random.nextInt(3)); break;
            case 3:
                if (coin() && plain.about(2) > 0) {
                    call("start", plain.ofTeller(random.nextInt(plain.about(2)), 0), about(4));
                }
                call("ask", about(plain.about(2)));
                break;
            case 4: case 5: call("follow", telling()); break;
            case 6: call("day", random.nextInt(20) == 0 ? about(10000) : random.nextInt(10000), 1 + about(30)); break;
            case 7: call("undo"); break;
            default: call("played", random.nextInt(6) == 0 ? about(5) : about(plain.about(5))); break;
        }
        for (int i = 0; i < 3; i++) {
            call("walker", i);
        }
        call("about", 7);
    }

    // ---- questions

    private void question() throws Exception {
        switch (random.nextInt(27)) {
            case 0: call("walker", about(4)); break;
            case 1: call("ofCorner", corner(), about(9)); break;
            case 2: call("ofTeller", about(plain.about(2)), about(5)); break;
            case 3: call("ofTelling", telling(), about(17)); break;
            case 4: call("leads", telling(), about(8)); break;
            case 5: call("likely", telling(), random.nextInt(3) == 0 ? -1 : corner()); break;
            case 6: call("byAll", someSet(4), corner(), coin()); break;
            case 7: call("clash", about(20) - 1); break;
            case 8: call("wrong", someSet(8), coin()); break;
            case 9: call("far", corner(), corner()); break;
            case 10: case 11: {
                int set = coin() ? 1 << about(Math.max(1, tellings())) : someSet(3);
                call("see", set, about(6) - 2);
                call("see", set, -1);
                call("see", set, -2);
                call("see", set, 0);
                call("orAsk", set);
                break;
            }
            case 12: call("safeSoFar", telling(), about(7), coin()); break;
            case 13: call("howFar", telling(), about(101)); break;
            case 14: call("lost", telling(), corner()); break;
            case 15: call("listen", about(8), about(8), about(11), about(11), coin()); break;
            case 16: case 17: tellings(corner(), about(4), random.nextInt(3) == 0 ? about(8) : random.nextInt(2) * 2); break;
            case 18: call("where", telling(), coin()); break;
            case 19: {
                int n = 1 + about(8);
                call("map", corner(), n, about(n >= 1 && n <= 8 ? 1 << 2 * n : 16));
                call("map", corner(), 1 + random.nextInt(3), random.nextInt(4));
                break;
            }
            case 20: call("signs"); break;
            case 21: {
                int telling = telling();
                int to = plain.leads(telling, random.nextInt(8));
                call("whose", telling, to >= 0 ? to : corner(), random.nextInt(10) == 0 ? about(9) : 1 << random.nextInt(3), coin());
                break;
            }
            case 22: call("heard", corner()); break;
            case 23: call("about", about(9)); break;
            case 24: call("fault", about(2)); break;
            case 25: call("by", random.nextInt(4) == 0 ? about(6) - 1 : about(plain.about(5))); break;
            default: {
                int telling = telling();
                int turns = plain.ofTelling(telling, 2);
                if (turns > 1) {
                    for (int c = 0; c < corners(); c++) {
                        call("lost", telling, c);
                    }
                }
                break;
            }
        }
    }

    private void tellings(int corner, int facing, int slips) throws Exception {
        call("tell", corner, facing, slips, -1);
        call("tell", corner, facing, slips, about(4) - 1);
        call("tell", corner, facing, slips, about(3));
    }

    // ---- texts

    private void giveText() throws Exception {
        String text = someText();
        if (random.nextInt(4) == 0) {
            text = spoilt(text);
        }
        if (text.length() > 300) {
            text = text.substring(0, 300);
        }
        if (random.nextInt(20) != 0) {
            call("end", 0);
        }
        int from = plain.about(8);
        for (int i = 0; i < text.length(); i += 20) {
            int[] v = new int[5];
            for (int k = 0; k < 20; k++) {
                int b = i + k < text.length() ? text.charAt(i + k) : random.nextInt(256);
                v[k / 4] = v[k / 4] << 8 | b & 255;
            }
            call("feed", v[0], v[1], v[2], v[3], v[4]);
        }
        call("end", random.nextInt(40) == 0 ? about(310) : Math.min(300, from + text.length()));
        long number = call("text");
        call("fault", 0);
        call("fault", 1);
        call("about", 8);
        if (number >= 0 && random.nextInt(4) != 0) {
            call("by", (int) number);
        }
        if (number >= 0 && coin()) {
            call("played", (int) number);
        }
    }

    private String blank() {
        switch (random.nextInt(6)) {
            case 0: return "\n";
            case 1: return "  ";
            default: return " ";
        }
    }

    private String someText() {
        StringBuilder b = new StringBuilder();
        List<String> laws = new ArrayList<>(List.of("swaps", "leaves", "mixes", "pace", "asks"));
        int clauses = random.nextInt(10) == 0 ? 26 : random.nextInt(9);
        for (int i = 0; i < clauses; i++) {
            if (!laws.isEmpty() && random.nextInt(3) != 0 && clauses < 26) {
                String law = random.nextInt(60) == 0 ? "pace" : laws.remove(random.nextInt(laws.size()));
                // Now and then asking is cheap, or walking slow: else it is never worth while to ask.
                String plainSum = random.nextInt(3) != 0 ? "" : law.equals("asks") ? "asked" : law.equals("pace") ? "60+way*9" : "";
                b.append(law).append(blank()).append(plainSum.isEmpty() ? sum(law, random.nextInt(4)) : plainSum).append(";");
            } else {
                b.append(clauses == 26 && coin() ? "goal 0;" : deed());
            }
            if (random.nextInt(5) == 0) {
                b.append(blank());
            }
        }
        return b.toString();
    }

    private String deed() {
        int n = Math.max(1, Math.min(16, corners()));
        switch (random.nextInt(12)) {
            case 0: return "corner " + number(6) + ";";
            case 1: return "street " + number(n) + " " + number(4) + " to " + number(n) + ";";
            case 2: return "lane " + number(n) + " " + number(4) + "to" + number(n) + " ;";
            case 3: return "goal " + number(n) + ";";
            case 4: return "teller " + number(n) + ";";
            case 5: case 6: {
                StringBuilder t = new StringBuilder("telling " + number(3) + " facing " + number(4) + ":");
                int turns = 1 + random.nextInt(random.nextInt(4) == 0 ? 7 : 3);
                for (int i = 0; i < turns; i++) {
                    t.append(i == 0 ? "" : ",");
                    t.append(coin() ? "at " + (1 + number(5)) : "" + (1 + number(4)));
                    t.append(" ").append(List.of("left", "right", "on").get(random.nextInt(3)));
                }
                return t.append(";").toString();
            }
            case 7: return "start " + number(n) + " facing " + number(4) + ";";
            case 8: return "walk " + (1 + number(random.nextInt(4) == 0 ? 20 : 2)) + ";";
            case 9: return "turn " + List.of("left", "right", "back").get(random.nextInt(3)) + ";";
            case 10: return "ask " + number(3) + ";";
            default: return "follow " + number(4) + ";";
        }
    }

    private int number(int count) {
        return random.nextInt(60) == 0 ? count + random.nextInt(20) : random.nextInt(count);
    }

    private String sum(String law, int depth) {
        StringBuilder b = new StringBuilder(product(law, depth));
        for (int i = random.nextInt(3); i > 0; i--) {
            b.append(coin() ? "+" : "-").append(product(law, depth));
        }
        return b.toString();
    }

    private String product(String law, int depth) {
        StringBuilder b = new StringBuilder(one(law, depth));
        for (int i = random.nextInt(6) - 3; i > 0; i--) {
            b.append(coin() ? "*" : "/").append(one(law, depth));
        }
        return b.toString();
    }

    private String one(String law, int depth) {
        if (random.nextInt(80) == 0) {
            return "(".repeat(5 + random.nextInt(6)) + "1";
        }
        switch (random.nextInt(depth > 0 ? 8 : 4)) {
            case 0: return "" + random.nextInt(12);
            case 1: return "" + number(random.nextInt(5) == 0 ? 10000 : 4);
            case 2: case 3: {
                String names = law.equals("pace") ? "narrow sight way" : law.equals("asks") ? "who here asked"
                        : "who here asked turns face told told told asked";
                if (random.nextInt(60) == 0) {
                    names = "narrow sight way who here asked turns face told left end";
                }
                String[] all = names.split(" ");
                return all[random.nextInt(all.length)];
            }
            case 4: return "(" + sum(law, depth - 1) + ")";
            case 5: return "-" + one(law, depth - 1);
            case 6: return "least of " + sum(law, depth - 1) + "," + sum(law, depth - 1) + " end";
            default: return "most of " + sum(law, depth - 1) + " , " + sum(law, depth - 1) + " end";
        }
    }

    private String spoilt(String text) {
        StringBuilder b = new StringBuilder(text);
        for (int i = random.nextInt(3); i >= 0; i--) {
            int at = random.nextInt(b.length() + 1);
            String noise = List.of(";", ",", ":", "(", ")", "-", "<=", "#", "end", "of", "at", "X", "9", "99999", "\t",
                    "\u00e9", " ", "\n", "on", "pace", "swaps", "0").get(random.nextInt(22));
            int cut = random.nextInt(3) == 0 ? Math.min(b.length() - at, random.nextInt(4)) : 0;
            b.replace(at, at + cut, coin() ? noise : "");
        }
        return b.toString();
    }
}
