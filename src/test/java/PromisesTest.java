/** The promises of the document, one after the other, with answers that were worked out by hand. */
public final class PromisesTest extends Towns {
    private static int promise = 0;

    public static void main(String[] args) {
        Runnable[] all = {
            PromisesTest::aNewObject, PromisesTest::corner, PromisesTest::street, PromisesTest::goal,
            PromisesTest::teller, PromisesTest::telling, PromisesTest::feed, PromisesTest::end,
            PromisesTest::text, PromisesTest::fault, PromisesTest::by, PromisesTest::start,
            PromisesTest::walk, PromisesTest::turn, PromisesTest::ask, PromisesTest::follow,
            PromisesTest::played, PromisesTest::day, PromisesTest::undo, PromisesTest::walker,
            PromisesTest::ofCorner, PromisesTest::ofTeller, PromisesTest::ofTelling, PromisesTest::leads,
            PromisesTest::likely, PromisesTest::byAll, PromisesTest::clash, PromisesTest::wrong,
            PromisesTest::far, PromisesTest::see, PromisesTest::orAsk, PromisesTest::safeSoFar,
            PromisesTest::howFar, PromisesTest::lost, PromisesTest::listen, PromisesTest::tell,
            PromisesTest::where, PromisesTest::map, PromisesTest::signs, PromisesTest::whose,
            PromisesTest::heard, PromisesTest::image, PromisesTest::back, PromisesTest::about};
        for (Runnable test : all) {
            promise++;
            about = "promise " + promise;
            test.run();
        }
        if (promise != 44) {
            wrong++;
            System.out.println("only " + promise + " promises are tested");
        }
        endOfTest("all promises hold");
    }

    // ---- 1 to 6

    private static void aNewObject() {
        SecondLeft x = new SecondLeft();
        int[] due = {0, -1, 0, 0, 29, 0, -1, 0, 0};
        for (int i = 0; i < due.length; i++) {
            due("about(" + i + ")", x.about(i), due[i]);
        }
        due("NONE", SecondLeft.NONE, -1);
        due("walker(0)", x.walker(0), -1);
        due("fault(0)", x.fault(0), -1);
        x.corner(0);
        x.start(0, 0);
        due("back to the first image", x.back(), 0);
        due("nobody again", x.walker(0), -1);
        due("no steps", x.about(7), 0);
    }

    private static void corner() {
        SecondLeft x = new SecondLeft();
        due("corner(-1)", x.corner(-1), -1);
        due("corner(6)", x.corner(6), -1);
        for (int i = 0; i < 16; i++) {
            due("the " + i + "th corner", x.corner(i % 6), i);
        }
        due("the 17th corner", x.corner(0), -1);
        due("about(0)", x.about(0), 16);
        due("sight of 11", x.ofCorner(11, 0), 5);
    }

    private static void street() {
        SecondLeft x = new SecondLeft();
        for (int i = 0; i < 4; i++) {
            x.corner(0);
        }
        due("0 1 to 1", x.street(0, 1, 1, false), true);
        due("again", x.street(0, 1, 2, false), false);
        due("1 has one in 3", x.street(2, 1, 1, false), false);
        due("back in 3", x.ofCorner(1, 4), 0);
        due("to itself", x.street(2, 0, 2, false), false);
        due("a second one between both", x.street(1, 1, 0, true), true);
        due("it is a lane at both ends", x.ofCorner(0, 8) + x.ofCorner(1, 6), 2);
        due("the first is none", x.ofCorner(0, 6) + x.ofCorner(1, 8), 0);
        due("direction 4", x.street(2, 4, 3, false), false);
        due("direction -1", x.street(2, -1, 3, false), false);
        due("from 4", x.street(4, 0, 3, false), false);
        due("to 4", x.street(3, 0, 4, false), false);
        due("from -1", x.street(-1, 0, 3, false), false);
        due("to -1", x.street(3, 0, -1, false), false);
        due("3 up to 2", x.street(3, 3, 2, true), true);
        due("back in 1", x.ofCorner(2, 2), 3);
    }

    private static void goal() {
        SecondLeft x = new SecondLeft();
        due("goal(0) without corners", x.goal(0), false);
        due("goal(NONE)", x.goal(-1), true);
        x.corner(0);
        due("goal(0)", x.goal(0), true);
        due("about(1)", x.about(1), 0);
        due("goal(1)", x.goal(1), false);
        due("goal(-2)", x.goal(-2), false);
        due("it stays", x.about(1), 0);
        due("goal(NONE) again", x.goal(-1), true);
        due("about(1)", x.about(1), -1);
    }

    private static void teller() {
        SecondLeft x = new SecondLeft();
        due("without corners", x.teller(0, 0, 0, 0), -1);
        x.corner(0);
        due("corner 1", x.teller(1, 0, 0, 0), -1);
        due("corner -1", x.teller(-1, 0, 0, 0), -1);
        due("swap 11", x.teller(0, 11, 0, 0), -1);
        due("leave -1", x.teller(0, 0, -1, 0), -1);
        due("mix 11", x.teller(0, 0, 0, 11), -1);
        for (int i = 0; i < 6; i++) {
            due("the " + i + "th teller", x.teller(0, 10, i, 0), i);
        }
        due("the 7th teller", x.teller(0, 0, 0, 0), -1);
        due("about(2)", x.about(2), 6);
    }

    private static void telling() {
        SecondLeft x = new SecondLeft();
        x.corner(0);
        due("without a teller", x.telling(0, 0, 101, 0), -1);
        x.teller(0, 0, 0, 0);
        int[] bad = {0, -101, 100, 105, 110, 116, 120, 1, 11, 401, 99, 101000, 101100, 1101, 101000201, 1101101101,
            Integer.MAX_VALUE, Integer.MIN_VALUE, 101101401};
        for (int turns : bad) {
            due("turns " + turns, x.telling(0, 0, turns, 0), -1);
            if (turns != 0) {
                due("more " + turns, x.telling(0, 0, 101101101, turns), -1);
            }
        }
        due("more behind two", x.telling(0, 0, 101101, 101), -1);
        due("facing 4", x.telling(0, 4, 101, 0), -1);
        due("facing -1", x.telling(0, -1, 101, 0), -1);
        due("teller 1", x.telling(1, 0, 101, 0), -1);
        due("teller -1", x.telling(-1, 0, 101, 0), -1);
        due("one turn", x.telling(0, 3, 304, 0), 0);
        due("three turns", x.telling(0, 3, 101215311, 0), 1);
        due("four turns", x.telling(0, 3, 101215311, 102), 2);
        due("six turns", x.telling(0, 3, 101215311, 204315104), 3);
        due("it has six", x.ofTelling(3, 2), 6);
        due("its fourth", x.ofTelling(3, 13), 204);
        due("its last", x.ofTelling(3, 15), 104);
        due("the fourth of four", x.ofTelling(2, 13), 102);
        due("no fifth of four", x.ofTelling(2, 14), -1);
        for (int i = 4; i < 8; i++) {
            due("the " + i + "th", x.telling(0, 0, 101, 0), i);
        }
        due("the 9th", x.telling(0, 0, 101, 0), -1);
        due("about(3)", x.about(3), 8);
    }

    // ---- 7 to 11: texts

    private static void feed() {
        SecondLeft x = new SecondLeft();
        for (int i = 1; i <= 15; i++) {
            due("feed " + i, x.feed(0, 0, 0, 0, 0), 20 * i);
        }
        due("feed 16", x.feed(0, 0, 0, 0, 0), -1);
        due("none came", x.about(8), 300);
        x.end(281);
        due("301 are too many", x.feed(0, 0, 0, 0, 0), -1);
        due("none came", x.about(8), 281);
        // "goal" of a, then "    " of b and c, "0" first in d, ";" last in e
        SecondLeft y = new SecondLeft();
        y.feed(0x676f616c, 0x20202020, 0x20202020, 0x30202020, 0x2020203b);
        due("the highest byte comes first", y.text(), 0);
        // bytes above 127 are no tokens
        y.feed(0x80ffffff, -1, -1, -1, -1);
        due("no token", y.text(), -1);
        due("at its first byte", y.fault(1), 0);
    }

    private static void end() {
        SecondLeft x = new SecondLeft();
        due("end(1) of none", x.end(1), -1);
        due("end(0) of none", x.end(0), 0);
        x.feed(0, 0, 0, 0, 0);
        due("end(21)", x.end(21), -1);
        due("end(-1)", x.end(-1), -1);
        due("nothing is done", x.about(8), 20);
        due("end(20)", x.end(20), 20);
        due("end(7)", x.end(7), 7);
        due("about(8)", x.about(8), 7);
        due("end(8)", x.end(8), -1);
        due("feed goes on behind", x.feed(0, 0, 0, 0, 0), 27);
    }

    private static void text() {
        SecondLeft x = new SecondLeft();
        due("an empty one", x.text(), 0);
        due("blanks", read(x, " \n \n"), 1);
        due("a fault", read(x, "goal 0"), -1);
        due("the tape is empty then", x.about(8), 0);
        due("there are two yet", x.about(5), 2);
        due("a law", read(x, "pace 10;"), 2);
        due("the tape is empty then", x.about(8), 0);
        due("close together", read(x, "street0 1to 2;swaps-1+(told);goal\n7 ;"), 3);
        put(x, "goal 0;");
        due("the fifth", x.text(), -1);
        due("the tape stays", x.about(8), 7);
        due("it wasn't read", x.fault(0), 0);
        String deeds = "corner 5;street 15 3 to 0;lane 0 0 to 15;goal 15;teller 15;telling 5 facing 3:4 left,at 5 right,"
                + "1 on;start 15 facing 3;walk 20;walk 1;turn left;turn right;turn back;ask 5;follow 7;";
        due("all deeds", read(new SecondLeft(), deeds), 0);
        String laws = "swaps who+here-asked*turns/face;leaves told;mixes-least of 1,most of told,2 end end;"
                + "pace narrow+sight+way;asks who+here+asked;";
        due("all laws", read(new SecondLeft(), laws), 0);
        due("eight open", read(new SecondLeft(), "pace((((((((1))))))))-((1));"), 0);
        due("eight less", read(new SecondLeft(), "pace--------1+--------1;"), 0);
        due("300 bytes", read(new SecondLeft(), " ".repeat(293) + "goal 0;"), 0);
        due("24 clauses", read(new SecondLeft(), "goal 0;".repeat(24)), 0);
        due("six turns", read(new SecondLeft(), "telling 0 facing 0:1 on,1 on,1 on,1 on,1 on,1 on;"), 0);
        due("leading noughts", read(new SecondLeft(), "pace 0000009999;"), 0);
    }

    private static void fault() {
        SecondLeft x = new SecondLeft();
        due("ahead of any", x.fault(0), -1);
        due("its place", x.fault(1), -1);
        read(x, "goal 0;");
        due("without", x.fault(0), 0);
        due("its place", x.fault(1), -1);
        due("fault(2)", x.fault(2), -1);
        due("fault(-1)", x.fault(-1), -1);
        // 1: it can't stand there, or is none
        faultOf("goal", 1, 4);
        faultOf("goal  ", 1, 6);
        faultOf("goal 0", 1, 6);
        faultOf("Goal 0;", 1, 0);
        faultOf("goals 0;", 1, 0);
        faultOf("goalz 0;", 1, 0);
        faultOf("goalA 0;", 1, 0);
        faultOf("goalZ 0;", 1, 0);
        faultOf(";".repeat(300), 1, 0);
        faultOf("turn to;", 1, 5);
        faultOf("turn 23;", 1, 5);
        faultOf("turn who;", 1, 5);
        faultOf(";", 1, 0);
        faultOf("7;", 1, 0);
        faultOf("goal\t0;", 1, 4);
        faultOf("goal who;", 1, 5);
        faultOf("goal -1;", 1, 5);
        faultOf("goal 0;$", 1, 7);
        faultOf("goal 0 1;", 1, 7);
        faultOf("pace 1<=2;", 1, 6);
        faultOf("pace 1 who;", 1, 7);
        faultOf("pace 1 99999;", 1, 7);
        faultOf("pace;", 1, 4);
        faultOf("pace +1;", 1, 5);
        faultOf("pace left;", 1, 5);
        faultOf("pace (1;", 1, 7);
        faultOf("pace 1);", 1, 6);
        faultOf("pace least of 1,2;", 1, 17);
        faultOf("pace least of 1 end;", 1, 16);
        faultOf("street 0 0 0;", 1, 11);
        faultOf("start 0 0;", 1, 8);
        faultOf("turn on;", 1, 5);
        faultOf("telling 0 facing 0:;", 1, 19);
        faultOf("telling 0 facing 0:1 back;", 1, 21);
        faultOf("telling 0 facing 0:1 left,;", 1, 26);
        faultOf("telling 0 facing 0:left;", 1, 19);
        faultOf("goal 0;".repeat(24) + "x", 1, 168);
        // 2: a number that isn't one of those told
        faultOf("pace 10000;", 2, 5);
        faultOf("pace 99999999999999999999;", 2, 5);
        faultOf("corner 6;", 2, 7);
        faultOf("corner 99999;", 2, 7);
        faultOf("street 0 4 to 0;", 2, 9);
        faultOf("street 0 0 to 16;", 2, 14);
        faultOf("teller 16;", 2, 7);
        faultOf("telling 6 facing 0:1 on;", 2, 8);
        faultOf("telling 0 facing 0:0 on;", 2, 19);
        faultOf("telling 0 facing 0:5 on;", 2, 19);
        faultOf("telling 0 facing 0:at 0 on;", 2, 22);
        faultOf("telling 0 facing 0:at 6 on;", 2, 22);
        faultOf("walk 0;", 2, 5);
        faultOf("walk 21;", 2, 5);
        faultOf("ask 6;", 2, 4);
        faultOf("follow 8;", 2, 7);
        faultOf("telling 0 facing 0:1 on,1 on,1 on,1 on,1 on,1 on,5 on;", 2, 49);
        // 3: the 9th that is open
        faultOf("pace (((((((((1", 3, 13);
        faultOf("pace ---------1;", 3, 13);
        faultOf("pace ((((-(-(-1))))));", 3, 13);
        faultOf("pace ((((((((least of 1,2 end))))))));", 3, 13);
        faultOf("pace ((((((((1(", 1, 14);
        // 4: a law for the second time
        faultOf("pace 1;goal 0;pace 2;", 4, 14);
        faultOf("asks 1;" + "goal 0;".repeat(23) + "asks 1;", 4, 168);
        // 5: a name that isn't of that clause
        faultOf("swaps narrow;", 5, 6);
        faultOf("leaves sight;", 5, 7);
        faultOf("mixes way;", 5, 6);
        faultOf("pace 1+told;", 5, 7);
        faultOf("pace asked;", 5, 5);
        faultOf("asks turns;", 5, 5);
        faultOf("asks face;", 5, 5);
        // 6: the 25th clause
        faultOf("goal 0;".repeat(24) + " goal", 6, 169);
        faultOf("goal 0;".repeat(24) + "pace x", 6, 168);
        // 7: the 7th turn
        faultOf("telling 0 facing 0:1 on,1 on,1 on,1 on,1 on,1 on,4 x", 7, 49);
        faultOf("telling 0 facing 0:1 on,1 on,1 on,1 on,1 on,1 on,at 9", 7, 49);
        faultOf("telling 0 facing 0:1 on,1 on,1 on,1 on,1 on,1 on,on", 1, 49);
    }

    private static void by() {
        SecondLeft x = village();
        due("by(0) without texts", x.by(0), false);
        due("by(NONE)", x.by(-1), true);
        read(x, "pace 7;");
        due("it doesn't rule yet", x.far(0, 1), 10);
        due("by(0)", x.by(0), true);
        due("about(6)", x.about(6), 0);
        due("it rules", x.far(0, 1), 7);
        due("by(1)", x.by(1), false);
        due("by(-2)", x.by(-2), false);
        due("it rules yet", x.far(0, 1), 7);
        due("by(NONE)", x.by(-1), true);
        due("none rules", x.far(0, 1), 10);
        // how sums are taken
        paceOf("2+3*4", 14);
        paceOf("20-3-4", 13);
        paceOf("60/4/3", 5);
        paceOf("60/(4/3)", 60);
        paceOf("10- -7/2", 13);
        paceOf("10+7/-2", 7);
        paceOf("5/0+4", 4);
        paceOf("-2*-3", 6);
        // 1000000 at most at each step, and as much below
        paceOf("9999*9999-9999*100-90", 10);
        paceOf("9999*9999+9999*9999-9999*100-90", 10);
        paceOf("0-9999*9999-5+9999*100+100+11", 11);
        paceOf("-9999*9999+9999*100+112", 12);
        paceOf("9999*9999/1000-987", 13);
        paceOf("least of 3,4 end*most of 5,6 end", 18);
        paceOf("0", 1);
        paceOf("-9", 1);
        paceOf("100", 99);
    }

    // ---- 12 to 20: the walker

    private static void start() {
        SecondLeft x = new SecondLeft();
        due("without corners", x.start(0, 0), false);
        x = village();
        due("start(6, 0)", x.start(6, 0), false);
        due("start(-1, 0)", x.start(-1, 0), false);
        due("start(0, 4)", x.start(0, 4), false);
        due("start(0, -1)", x.start(0, -1), false);
        due("nobody", x.walker(0), -1);
        due("no step", x.about(7), 0);
        due("start(5, 3)", x.start(5, 3), true);
        due("corner", x.walker(0), 5);
        due("facing", x.walker(1), 3);
        due("seconds", x.walker(2), 0);
        x.walk(1);
        due("start(0, 1)", x.start(0, 1), true);
        due("seconds anew", x.walker(2), 0);
        due("three steps", x.about(7), 3);
    }

    private static void walk() {
        SecondLeft x = village();
        due("nobody", x.walk(1), -1);
        x.start(0, 1);
        due("walk(0)", x.walk(0), -1);
        due("walk(-1)", x.walk(-1), -1);
        due("walk(4)", x.walk(4), -1);
        due("nothing is done", x.walker(0), 0);
        due("no step either", x.about(7), 1);
        due("walk(3)", x.walk(3), 3);
        due("seconds", x.walker(2), 30);
        due("each is a step", x.about(7), 4);
        due("walk(1)", x.walk(1), -1);
        SecondLeft y = ring(5);
        y.start(0, 3);
        due("walk(20)", y.walk(20), 0);
        due("walk(21)", y.walk(21), -1);
        SecondLeft z = ruled(village(), "pace 10*narrow+5*sight+way;");
        z.start(4, 2);
        due("a lane", z.walk(1), 1);
        due("10 and 2", z.walker(2), 12);
        z.turn(1);
        z.walk(2);
        due("5 and 1, 10 and 1 more", z.walker(2), 12 + 6 + 11);
    }

    private static void turn() {
        SecondLeft x = village();
        due("nobody", x.turn(1), -1);
        x.start(0, 0);
        due("left", x.turn(1), 3);
        due("right", x.turn(2), 0);
        due("right", x.turn(2), 1);
        due("back", x.turn(3), 3);
        due("right", x.turn(2), 0);
        due("turn(0)", x.turn(0), -1);
        due("turn(4)", x.turn(4), -1);
        due("steps", x.about(7), 6);
        due("no seconds", x.walker(2), 0);
    }

    private static void ask() {
        SecondLeft x = village();
        x.teller(0, 0, 0, 0);
        x.teller(1, 0, 0, 0);
        due("nobody", x.ask(0), -1);
        x.start(0, 1);
        due("it isn't there", x.ask(1), -1);
        due("ask(2)", x.ask(2), -1);
        due("ask(-1)", x.ask(-1), -1);
        due("once", x.ask(0), 1);
        due("20 seconds", x.walker(2), 20);
        due("twice", x.ask(0), 2);
        due("steps", x.about(7), 3);
        x.walk(1);
        due("the other", x.ask(1), 1);
        SecondLeft y = ruled(village(), "asks 7*who+here+2*asked;");
        y.teller(0, 0, 0, 0);
        y.teller(5, 0, 0, 0);
        y.start(5, 0);
        y.ask(1);
        due("7 and 5", y.walker(2), 12);
        y.ask(1);
        due("7 and 5 and 2 more", y.walker(2), 26);
        SecondLeft z = ruled(village(), "asks 100;");
        z.teller(0, 0, 0, 0);
        z.start(0, 0);
        z.ask(0);
        due("99 at most", z.walker(2), 99);
        z = ruled(village(), "asks -1;");
        z.teller(0, 0, 0, 0);
        z.start(0, 0);
        z.ask(0);
        due("0 at least", z.walker(2), 0);
    }

    private static void follow() {
        SecondLeft x = told(101, 111201, 113);
        due("nobody", x.follow(0), -1);
        x.start(1, 1);
        due("follow(3)", x.follow(3), -1);
        due("follow(-1)", x.follow(-1), -1);
        due("first left from 1 is at 2", x.follow(0), 1);
        due("it leads to 5", x.walker(0), 5);
        due("facing 0", x.walker(1), 0);
        due("20 seconds", x.walker(2), 20);
        due("nothing ahead", x.follow(0), 0);
        due("it is a step", x.about(7), 3);
        x.start(0, 1);
        due("at the church left, then no right", x.follow(1), 0);
        due("as far as the well", x.walker(0), 5);
        due("facing 0", x.walker(1), 0);
        x.start(4, 1);
        due("no street left of the well", x.follow(2), 0);
        due("at the well", x.walker(0), 5);
        due("facing 1 yet", x.walker(1), 1);
        due("10 seconds", x.walker(2), 10);
        // forty corners at most
        SecondLeft y = ring(13);
        y.teller(0, 0, 0, 0);
        y.telling(0, 1, 103, 0);
        y.telling(0, 1, 104, 0);
        y.start(0, 1);
        due("39 and on", y.follow(0), 1);
        due("400 seconds", y.walker(2), 400);
        due("in the side street", y.walker(0), 13);
        y.start(0, 1);
        due("52", y.follow(1), 0);
        due("40 of them", y.walker(2), 400);
        due("40 mod 13", y.walker(0), 1);
    }

    private static void played() {
        SecondLeft x = new SecondLeft();
        due("played(0) without texts", x.played(0), -2);
        due("played(-1)", x.played(-1), -2);
        read(x, "corner 0;pace 3;corner 2;lane 0 3 to 1;goal 1;teller 1;telling 0 facing 1:1 on,at 2 left,1 on,2 on,3 right,"
                + "at 5 on;start 0 facing 3;walk 1;turn back;ask 0;follow 0;");
        due("all of it", x.played(0), -1);
        due("two corners", x.about(0), 2);
        due("a chapel", x.ofCorner(1, 0), 2);
        due("the first turn", x.ofTelling(0, 10), 301);
        due("the goal", x.about(1), 1);
        due("a lane", x.ofCorner(1, 6), 1);
        due("six turns", x.ofTelling(0, 2), 6);
        due("the second", x.ofTelling(0, 11), 112);
        due("the last", x.ofTelling(0, 15), 315);
        due("its teller slips never", x.ofTeller(0, 1) + x.ofTeller(0, 2) + x.ofTeller(0, 3), 0);
        due("walked, asked, followed", x.walker(2), 10 + 20 + 10);
        due("at 0, facing 1", 10 * x.walker(0) + x.walker(1), 1);
        due("steps", x.about(7), 5);
        due("twice: the lane is there", x.played(0), 3);
        due("but two corners more", x.about(0), 4);
        // each that can't be
        due("played(1)", x.played(1), -2);
        stops("corner 0;".repeat(17), 16);
        stops("corner 0;corner 0;street 0 0 to 2;", 2);
        stops("goal 0;", 0);
        stops("corner 0;teller 1;", 1);
        stops("corner 0;teller 0;telling 1 facing 0:1 on;", 2);
        stops("corner 0;start 1 facing 0;", 1);
        stops("corner 0;turn left;", 1);
        stops("corner 0;teller 0;ask 0;", 2);
        stops("corner 0;teller 0;telling 0 facing 0:1 on;follow 0;", 3);
        stops("corner 0;teller 0;telling 0 facing 0:1 on;start 0 facing 0;follow 1;", 4);
        stops("corner 0;walk 1;", 1);
        stops("corner 0;corner 0;street 0 0 to 1;start 0 facing 0;walk 2;goal 0;", 4);
        // a telling that can't all be gone is followed all the same
        stops("corner 0;teller 0;telling 0 facing 0:1 on;start 0 facing 0;follow 0;goal 0;", -1);
        SecondLeft y = new SecondLeft();
        read(y, "corner 0;corner 0;street 0 0 to 1;start 0 facing 0;walk 2;goal 0;");
        y.played(0);
        due("those that can are walked", y.walker(0), 1);
        due("no lane", y.ofCorner(0, 5), 0);
        due("nothing behind it", y.about(1), -1);
        SecondLeft z = new SecondLeft();
        read(z, "pace 3;corner 0;corner 0;street 0 0 to 1;start 0 facing 0;walk 1;");
        z.played(0);
        due("the text that is played doesn't rule", z.walker(2), 10);
    }

    private static void stops(String text, int due) {
        SecondLeft x = new SecondLeft();
        read(x, text);
        due("played '" + text + "'", x.played(0), due);
    }

    private static void day() {
        SecondLeft x = new SecondLeft();
        due("without corners", x.day(0, 1), -1);
        x = village();
        x.teller(0, 0, 0, 0);
        due("seed -1", x.day(-1, 1), -1);
        due("seed 10000", x.day(10000, 1), -1);
        due("n 0", x.day(0, 0), -1);
        due("n 31", x.day(0, 31), -1);
        due("no step", x.about(7), 0);
        due("X as it was", x.about(4), 29);
        // 29: corner 5, facing 1; then 6768 (0: right), 10768 (0: right), 21338 (2: on or left),
        // 27348 (0), 15352 (0), 14779 (3), 4246 (2), 6669 (1)
        due("one", x.day(0, 1), 0);
        due("at 5", x.walker(0), 5);
        due("facing 2", x.walker(1), 2);
        due("X", x.about(4), 10768);
        due("one step", x.about(7), 1);
        due("three", x.day(0, 3), 10);
        due("3 of 5 is 4", x.walker(0), 4);
        due("facing 3", x.walker(1), 3);
        due("n 30", x.day(9999, 30) >= 0, true);
        // 40025 mod 6 is 5; facing 1
        SecondLeft y = village();
        y.day(9999, 1);
        due("seed 9999", y.walker(0), 5);
        // one corner: 2 and 3 turn left, 1 asks
        SecondLeft z = new SecondLeft();
        z.corner(0);
        z.teller(0, 0, 0, 0);
        z.teller(0, 0, 0, 0);
        long seconds = z.day(17, 30);
        long x1 = 17 * 4 + 29;
        int facing = (int) (x1 % 4);
        int asked = 0;
        for (int i = 0; i < 30; i++) {
            x1 = (x1 * 229 + 127) % 30181;
            facing = (facing + (x1 % 4 == 0 ? 1 : x1 % 4 == 1 ? 0 : 3)) % 4;
            asked += x1 % 4 == 1 ? 1 : 0;
        }
        due("each was 20 seconds", seconds, 20L * asked);
        due("the lowest was asked", z.ofTeller(0, 4), asked);
        due("not the other", z.ofTeller(1, 4), 0);
        due("facing", z.walker(1), facing);
        due("X anew", z.about(4), (x1 * 229 + 127) % 30181);
    }

    private static void undo() {
        SecondLeft x = village();
        x.teller(1, 0, 0, 0);
        x.telling(0, 1, 302, 0);
        due("none", x.undo(), -1);
        x.start(0, 1);
        x.walk(1);
        x.ask(0);
        x.turn(2);
        x.turn(1);
        x.follow(0);
        x.day(5, 9);
        due("the day", x.undo(), 6);
        due("X", x.about(4), 29);
        due("at 3", x.walker(0), 3);
        due("seconds", x.walker(2), 50);
        due("the telling", x.undo(), 5);
        due("at 1", x.walker(0), 1);
        due("the turn", x.undo(), 4);
        due("facing 2", x.walker(1), 2);
        due("the turn", x.undo(), 3);
        due("the asking", x.undo(), 2);
        due("never asked", x.ofTeller(0, 4), 0);
        due("10 seconds", x.walker(2), 10);
        due("the street", x.undo(), 1);
        due("the start", x.undo(), 0);
        due("nobody", x.walker(0), -1);
        due("none", x.undo(), -1);
        SecondLeft y = ring(7);
        y.start(0, 1);
        y.walk(20);
        y.walk(20);
        due("thirty at most", y.about(7), 30);
        for (int i = 29; i >= 0; i--) {
            due("undo", y.undo(), i);
        }
        due("none", y.undo(), -1);
        due("ten of forty stay", y.walker(2), 100);
        due("10 mod 7", y.walker(0), 3);
    }

    private static void walker() {
        SecondLeft x = village();
        due("nobody", x.walker(0), -1);
        due("nobody", x.walker(2), -1);
        x.start(4, 2);
        due("corner", x.walker(0), 4);
        due("facing", x.walker(1), 2);
        due("seconds", x.walker(2), 0);
        due("walker(3)", x.walker(3), -1);
        due("walker(-1)", x.walker(-1), -1);
    }

    // ---- 21 to 23

    private static void ofCorner() {
        SecondLeft x = village();
        due("sight", x.ofCorner(5, 0), 3);
        due("up", x.ofCorner(1, 1), 4);
        due("right", x.ofCorner(1, 2), 2);
        due("down", x.ofCorner(1, 3), -1);
        due("left", x.ofCorner(1, 4), 0);
        due("up is a lane", x.ofCorner(1, 5), 1);
        due("right is none", x.ofCorner(1, 6), 0);
        due("down", x.ofCorner(1, 7), -1);
        due("left", x.ofCorner(1, 8), 0);
        due("9", x.ofCorner(1, 9), -2);
        due("-1", x.ofCorner(1, -1), -2);
        due("corner 6", x.ofCorner(6, 0), -2);
        due("corner -1", x.ofCorner(-1, 0), -2);
    }

    private static void ofTeller() {
        SecondLeft x = village();
        x.teller(3, 7, 8, 9);
        int[] due = {3, 7, 8, 9, 0, -1};
        for (int i = 0; i < due.length; i++) {
            due("ofTeller(0, " + i + ")", x.ofTeller(0, i), due[i]);
        }
        due("-1", x.ofTeller(0, -1), -1);
        due("teller 1", x.ofTeller(1, 0), -1);
        due("teller -1", x.ofTeller(-1, 0), -1);
        x.start(3, 0);
        x.ask(0);
        due("asked", x.ofTeller(0, 4), 1);
    }

    private static void ofTelling() {
        SecondLeft x = told(101, 302111204);
        due("teller", x.ofTelling(1, 0), 0);
        due("facing", x.ofTelling(1, 1), 1);
        due("turns", x.ofTelling(1, 2), 3);
        due("swaps", x.ofTelling(1, 3), 2);
        due("leaves", x.ofTelling(1, 4), 3);
        due("mixes", x.ofTelling(1, 5), 4);
        for (int i = 6; i < 10; i++) {
            due("nothing", x.ofTelling(1, i), -1);
        }
        due("first", x.ofTelling(1, 10), 302);
        due("third", x.ofTelling(1, 12), 204);
        due("fourth", x.ofTelling(1, 13), -1);
        due("far behind", x.ofTelling(1, Integer.MAX_VALUE), -1);
        due("-1", x.ofTelling(1, -1), -1);
        due("telling 2", x.ofTelling(2, 0), -1);
        due("telling -1", x.ofTelling(-1, 0), -1);
        SecondLeft y = village();
        y.teller(0, 1, 1, 1);
        y.teller(5, 1, 2, 3);
        y.telling(1, 2, 101101, 0);
        ruled(y, "swaps who+here-told-1;leaves turns*told+face-1;mixes told+9*asked;");
        due("1 and 5 less 1 less 1", y.ofTelling(0, 3), 4);
        due("2 by 2 and 2 less 1", y.ofTelling(0, 4), 5);
        due("3", y.ofTelling(0, 5), 3);
        y.start(5, 0);
        y.ask(1);
        due("10 at most", y.ofTelling(0, 5), 10);
        y.by(read(y, "swaps -3;"));
        due("0 at least", y.ofTelling(0, 3), 0);
        due("without a law", y.ofTelling(0, 4), 2);
    }

    // ---- 24 to 29: where tellings lead

    private static void leads() {
        SecondLeft x = told(101, 111, 312, 301101, 302101, 113);
        due("first left: the lane", x.leads(0, 0), 4);
        due("lanes left out", x.leads(0, 2), 5);
        due("swapped", x.leads(0, 1), -1);
        due("mixed doesn't matter", x.leads(0, 6), 5);
        due("at the church left", x.leads(1, 0), 5);
        due("at the chapel left", x.leads(1, 4), -1);
        due("on to the chapel", x.leads(2, 0), 3);
        due("on to the church", x.leads(2, 4), 2);
        due("swapped doesn't matter", x.leads(2, 7), 2);
        due("on, then the first left", x.leads(3, 0), 5);
        due("past the last left", x.leads(4, 0), -1);
        due("no well ahead", x.leads(5, 0), -1);
        due("slips 8", x.leads(0, 8), -1);
        due("slips -1", x.leads(0, -1), -1);
        due("telling 6", x.leads(6, 0), -1);
        due("telling -1", x.leads(-1, 0), -1);
        // a lane ahead is a street, always, but one on the side may be left out
        SecondLeft y = row(3);
        y.corner(1);
        y.corner(0);
        y.street(2, 1, 3, true);
        y.street(3, 0, 4, true);
        y.teller(0, 0, 0, 0);
        y.telling(0, 1, 304, 0);
        y.telling(0, 1, 111, 0);
        y.telling(0, 1, 303, 0);
        due("on the lane", y.leads(2, 2), 3);
        due("4 streets aren't there", y.leads(0, 0), -1);
        due("left into the lane", y.leads(1, 0), 4);
        due("it doesn't count", y.leads(1, 2), -1);
        // forty corners
        SecondLeft z = ring(13);
        z.teller(0, 0, 0, 0);
        z.telling(0, 1, 103, 0);
        due("39 and once more", z.leads(0, 0), 13);
        z = ring(10);
        z.teller(0, 0, 0, 0);
        z.telling(0, 1, 104, 0);
        due("40 and once more", z.leads(0, 0), -1);
        z.telling(0, 1, 315, 0);
        due("round and round", z.leads(1, 0), -1);
    }

    private static void likely() {
        // 8*7*6 and 8*7*4; 8*3*6 and 8*3*4
        SecondLeft x = told(101, 312);
        due("4", x.likely(0, 4), 560);
        due("5", x.likely(0, 5), 240);
        due("0", x.likely(0, 0), 0);
        due("anywhere", x.likely(0, -1), 800);
        due("the chapel", x.likely(1, 3), 600);
        due("the church", x.likely(1, 2), 400);
        due("always", x.likely(1, -1), 1000);
        due("corner 6", x.likely(0, 6), -1);
        due("corner -2", x.likely(0, -2), -1);
        due("telling 2", x.likely(2, 0), -1);
        due("telling -1", x.likely(-1, 0), -1);
    }

    private static void odds(SecondLeft x, int set, int corner, long upper, long lower) {
        due("byAll(" + set + ", " + corner + ") upper", x.byAll(set, corner, false), upper);
        due("byAll(" + set + ", " + corner + ") lower", x.byAll(set, corner, true), lower);
    }

    private static void byAll() {
        SecondLeft x = told(101, 111, 312, 101, 302);
        odds(x, 1, 4, 7, 10);
        odds(x, 1, 5, 3, 10);
        odds(x, 1, 0, 0, 1);
        odds(x, 3, 5, 1, 1);
        odds(x, 3, 4, 0, 1);
        odds(x, 5, 3, 0, 1);
        // 560 * 560 to 560 * 560 + 240 * 240
        odds(x, 9, 4, 49, 58);
        odds(x, 9, 5, 9, 58);
        // 400 * 1000, at 2 alone
        odds(x, 20, 2, 1, 1);
        due("no telling", x.byAll(0, 0, false), -1);
        due("telling 5", x.byAll(32, 0, false), -1);
        due("five of them", x.byAll(31, 0, false), -1);
        due("four of them", x.byAll(15, 0, true), 1);
        due("-1", x.byAll(-1, 0, false), -1);
        due("corner 6", x.byAll(1, 6, false), -1);
        due("corner -1", x.byAll(1, -1, false), -1);
    }

    private static void clash() {
        SecondLeft x = told(101, 111, 312);
        // 0: 4, 5; 1: 5; 2: 3, 2
        due("how many", x.clash(-1), 2);
        due("0 and 2", x.clash(0), 2);
        due("1 and 2", x.clash(1), 10);
        due("no third", x.clash(2), -1);
        due("clash(-2)", x.clash(-2), -1);
        due("none", new SecondLeft().clash(-1), 0);
        due("none", new SecondLeft().clash(0), -1);
        // a way of weight 0 leads nowhere
        SecondLeft y = village();
        y.teller(0, 0, 0, 0);
        y.telling(0, 1, 101, 0);
        y.telling(0, 1, 111, 0);
        due("both are sure", y.clash(-1), 1);
    }

    private static void wrong() {
        SecondLeft x = told(101, 111, 312, 302);
        // 0: 4, 5; 1: 5; 2: 2, 3; 3: 2
        due("0 and 1", x.wrong(3, false), 0);
        due("at 5", x.wrong(3, true), 5);
        due("of 1 and 2 the lower", x.wrong(6, false), 2);
        due("at 2", x.wrong(6, true), 2);
        due("of all", x.wrong(15, false), 3);
        due("at 2", x.wrong(15, true), 2);
        due("of three", x.wrong(7, false), 4);
        due("at 5", x.wrong(7, true), 5);
        due("no set", x.wrong(0, false), -1);
        due("telling 4", x.wrong(16, false), -1);
        due("-1", x.wrong(-1, true), -1);
        SecondLeft y = told(315);
        due("it leads nowhere", y.wrong(1, false), 1);
        due("at the lowest", y.wrong(1, true), 0);
    }

    private static void far() {
        SecondLeft x = village();
        x.corner(0);
        due("0 to 5", x.far(0, 5), 30);
        due("0 to 0", x.far(0, 0), 0);
        due("not at all", x.far(0, 6), -1);
        due("nor back", x.far(6, 0), -1);
        due("from 7", x.far(7, 0), -1);
        due("to 7", x.far(0, 7), -1);
        due("from -1", x.far(-1, 0), -1);
        due("to -1", x.far(0, -1), -1);
        ruled(x, "pace 10+40*narrow+way;");
        // 1 to 4: by 2 and 5: 11 + 10 + 13, by the lane 50
        due("around the lane", x.far(1, 4), 34);
        due("and back", x.far(4, 1), 11 + 12 + 13);
    }

    // ---- 30, 31

    private static void see() {
        SecondLeft x = told(101, 312, 111);
        due("nobody", x.see(1, 0), -1);
        x.start(0, 1);
        // 4 (7 of 10) at 20, then 5 at 30: 23; 5 at 30, then 4 at 40: 37
        due("first 4", x.see(1, 0), 4);
        due("then 5", x.see(1, 1), 5);
        due("no third", x.see(1, 2), -1);
        due("23", x.see(1, -1), 23);
        due("by 1", x.see(1, -2), 1);
        due("-3", x.see(1, -3), -1);
        due("no corner", x.see(5 - 2, 0), -1);
        due("no set", x.see(0, 0), -1);
        due("telling 3", x.see(8, 0), -1);
        // 3 (6 of 10), 2 (4 of 10): 2 at 20 and 3 at 30: 26; 3 at 30, 2 at 40: 34
        due("the church first", x.see(2, 0), 2);
        due("26", x.see(2, -1), 26);
        x.start(3, 1);
        // 3 at 0, 2 at 10: 4
        due("the chapel first", x.see(2, 0), 3);
        due("4", x.see(2, -1), 4);
        due("here and there", x.see(4, -2), 1);
        x.start(5, 0);
        due("here", x.see(4, -1), 0);
        due("by 1", x.see(4, -2), 1);
        x.corner(0);
        x.start(6, 0);
        due("it can't be come to", x.see(1, 0), -1);
        // five corners: 3 at 20, 7 at 30, 4 at 60, 5 at 90, 6 at 110; 4, 3, 7, .. takes as long
        SecondLeft five = branches(5, 1);
        int[] order = {3, 7, 4, 5, 6, -1};
        for (int i = 0; i < order.length; i++) {
            due("five, the " + i + "th", five.see(1, i), order[i]);
        }
        due("62", five.see(1, -1), 62);
        due("by 1", five.see(1, -2), 1);
        due("six corners", branches(5, 3).see(1, 0), -1);
        due("nor asked", branches(5, 3).orAsk(1), -1);
        due("one of a thousandth", branches(1, 8).see(1, 4), 7);
        // of like ones the lowest first: a teller in the middle of a row, swap 5
        SecondLeft y = cross(5);
        y.start(0, 0);
        due("the lowest first", y.see(1, 0), 2);
        due("then the other", y.see(1, 1), 3);
        // 20 and 40 by halves: 30
        due("30", y.see(1, -1), 30);
        y = cross(3);
        y.start(0, 0);
        // 20 and 40: 3 of 10 times 40: 26
        due("the likelier", y.see(1, 0), 2);
        due("26", y.see(1, -1), 26);
        y = ruled(cross(3), "pace 1;");
        y.start(0, 0);
        // 2 and 4: 2.6
        due("13", y.see(1, -1), 13);
        due("by 5", y.see(1, -2), 5);
    }

    private static void orAsk() {
        SecondLeft x = ruled(cross(5), "asks 9;");
        due("nobody", x.orAsk(1), -1);
        x.start(0, 0);
        // to see takes 30, to ask 9 and 20
        due("ask", x.orAsk(1), 0);
        x.by(read(x, "asks 10;"));
        due("it takes no longer to see", x.orAsk(1), -1);
        x.by(read(x, "asks 11;"));
        due("nor here", x.orAsk(1), -1);
        x.by(0);
        x.teller(0, 0, 0, 0);
        due("of like ones the lowest", x.orAsk(1), 0);
        due("no set", x.orAsk(0), -1);
        due("telling 1", x.orAsk(2), -1);
        x.by(read(x, "asks 9-who;"));
        due("the soonest", x.orAsk(1), 1);
        // in the middle: to see 10 and 30, to ask there 9 and 10
        SecondLeft y = ruled(cross(5), "asks 9;");
        y.teller(1, 0, 0, 0);
        y.start(0, 0);
        due("on the way", y.orAsk(1), 0);
        y.by(read(y, "asks 9-2*who;"));
        due("the cheaper on the way", y.orAsk(1), 1);
        y.corner(0);
        y.start(4, 0);
        due("nobody can be come to", y.orAsk(1), -1);
        SecondLeft z = ruled(cross(5), "asks 5*asked;");
        z.start(0, 0);
        due("never asked", z.orAsk(1), 0);
        z.ask(0);
        due("asked once", z.orAsk(1), 0);
        z.ask(0);
        due("asked twice", z.orAsk(1), -1);
    }

    // ---- 32 to 35

    private static void safe(SecondLeft x, int telling, int k, int upper, int lower) {
        due("safeSoFar(" + telling + ", " + k + ") upper", x.safeSoFar(telling, k, false), upper);
        due("safeSoFar(" + telling + ", " + k + ") lower", x.safeSoFar(telling, k, true), lower);
    }

    private static void safeSoFar() {
        SecondLeft x = told(302101, 301101, 312, 101201, 111201);
        safe(x, 0, 0, 1, 1);
        // two on: never a slip; then no left is ahead
        safe(x, 0, 1, 1, 1);
        safe(x, 0, 2, 0, 1);
        // on, then left at 2 facing 0: unless swapped
        safe(x, 1, 2, 4, 5);
        // the chapel: unless mixed
        safe(x, 2, 1, 3, 5);
        // the lane: unless swapped or left out
        safe(x, 3, 1, 14, 25);
        // and then right at 4: the same
        safe(x, 3, 2, 14, 25);
        // the church: unless swapped or mixed; then nothing is ahead of 5
        safe(x, 4, 1, 12, 25);
        safe(x, 4, 2, 0, 1);
        due("k 3", x.safeSoFar(0, 3, false), -1);
        due("k -1", x.safeSoFar(0, -1, false), -1);
        due("telling 5", x.safeSoFar(5, 0, false), -1);
        due("telling -1", x.safeSoFar(-1, 0, true), -1);
        // without going on behind the last
        SecondLeft y = ring(10);
        y.teller(0, 0, 0, 0);
        y.telling(0, 1, 104, 0);
        safe(y, 0, 1, 1, 1);
    }

    private static void howFar() {
        SecondLeft x = told(301101, 101201, 312302, 302101);
        due("80 of 100", x.howFar(0, 80), 2);
        due("81 of 100", x.howFar(0, 81), 1);
        due("100 of 100", x.howFar(0, 100), 1);
        due("56 of 100", x.howFar(1, 56), 2);
        due("57 of 100", x.howFar(1, 57), 0);
        due("1 of 100", x.howFar(2, 1), 1);
        due("it can't be gone", x.howFar(3, 1), 1);
        due("q 0", x.howFar(0, 0), -1);
        due("q 101", x.howFar(0, 101), -1);
        due("telling 4", x.howFar(4, 1), -1);
        due("telling -1", x.howFar(-1, 1), -1);
        // for it and all less: at one turn lanes matter, behind the next they don't any more
        SecondLeft y = new SecondLeft();
        for (int sight : new int[] {0, 0, 0, 0, 0, 5}) {
            y.corner(sight);
        }
        // 0 - 1 - 2 in direction 1; 1 up by a lane to 3, 2 up to 4; 3 - 4 - 5 in direction 1
        y.street(0, 1, 1, false);
        y.street(1, 1, 2, false);
        y.street(1, 0, 3, true);
        y.street(2, 0, 4, false);
        y.street(3, 1, 4, false);
        y.street(4, 1, 5, false);
        y.teller(0, 0, 5, 0);
        y.telling(0, 1, 101201315, 0);
        safe(y, 0, 1, 1, 2);
        safe(y, 0, 2, 1, 2);
        safe(y, 0, 3, 1, 1);
        due("it stays at none", y.howFar(0, 51), 0);
        due("all of it", y.howFar(0, 50), 3);
    }

    private static void lost() {
        SecondLeft x = told(301101, 312101, 101, 101201301);
        due("as the first left", x.lost(0, 4), 0);
        due("as on", x.lost(0, 1), 1);
        due("as it is", x.lost(0, 5), -1);
        due("without the chapel", x.lost(1, 4), 0);
        due("without the left", x.lost(1, 3), 1);
        due("one turn", x.lost(2, 4), -1);
        // 201301 is none; 101301: up to 4; 101201: at 4 right, and once more
        due("without the right", x.lost(3, 4), 1);
        due("without the last", x.lost(3, 5), 2);
        due("nowhere", x.lost(3, 0), -1);
        due("corner 6", x.lost(0, 6), -1);
        due("corner -1", x.lost(0, -1), -1);
        due("telling 4", x.lost(4, 0), -1);
        due("telling -1", x.lost(-1, 0), -1);
        // of like ones the lowest
        SecondLeft y = row(5);
        y.teller(0, 0, 0, 0);
        y.telling(0, 1, 301301301, 0);
        due("the first of three alike", y.lost(0, 2), 0);
    }

    private static void heardBoth(int n, int m, int a, int b, long upper, long lower) {
        SecondLeft x = new SecondLeft();
        due("listen(" + n + ", " + m + ", " + a + ", " + b + ") upper", x.listen(n, m, a, b, false), upper);
        due("listen(" + n + ", " + m + ", " + a + ", " + b + ") lower", x.listen(n, m, a, b, true), lower);
    }

    private static void listen() {
        heardBoth(1, 0, 10, 5, 3, 4);
        heardBoth(1, 1, 10, 0, 1, 1);
        // each its own turn: a half by a half; both the same: nothing of the other
        heardBoth(2, 1, 5, 0, 1, 4);
        heardBoth(2, 2, 5, 0, 9, 16);
        heardBoth(3, 1, 10, 0, 0, 1);
        // two sure, one by b alone: 1 - 1/2 * 1/2
        heardBoth(3, 1, 10, 5, 3, 4);
        // minding is worse than not: they mind nothing
        heardBoth(2, 2, 0, 10, 1, 1);
        heardBoth(1, 6, 2, 9, 99, 100);
        // 6 turns, 3 each, a 9: 9/10 to the sixth
        heardBoth(6, 3, 9, 0, 531441, 1000000);
        heardBoth(6, 6, 9, 0, 941480149401L, 1000000000000L);
        heardBoth(6, 6, 0, 0, 0, 1);
        SecondLeft x = new SecondLeft();
        due("n 0", x.listen(0, 0, 0, 0, true), -1);
        due("n 7", x.listen(7, 0, 0, 0, true), -1);
        due("m -1", x.listen(1, -1, 0, 0, true), -1);
        due("m 7", x.listen(1, 7, 0, 0, true), -1);
        due("a -1", x.listen(1, 1, -1, 0, true), -1);
        due("a 11", x.listen(1, 1, 11, 0, true), -1);
        due("b -1", x.listen(1, 1, 0, -1, true), -1);
        due("b 11", x.listen(1, 1, 0, 11, true), -1);
    }

    // ---- 36 to 41

    private static void toldBy(SecondLeft x, int corner, int facing, int slips, int... turns) {
        String call = "tell(" + corner + ", " + facing + ", " + slips + ", ";
        due(call + "NONE)", x.tell(corner, facing, slips, -1), turns.length == 0 ? -1 : turns.length);
        for (int i = 0; i < 4; i++) {
            due(call + i + ")", x.tell(corner, facing, slips, i), i < turns.length ? turns[i] : -1);
        }
    }

    private static void tell() {
        SecondLeft x = village();
        due("without a goal", x.tell(0, 1, 0, -1), -1);
        x.goal(4);
        toldBy(x, 0, 1, 0, 101);
        // with lanes left out the first left leads to 5: by the church and left again at the well
        toldBy(x, 0, 1, 2, 111, 101);
        x.goal(5);
        toldBy(x, 0, 1, 0, 102);
        // the church, whether lanes count or not
        toldBy(x, 0, 1, 2, 111);
        toldBy(x, 0, 1, 4, 102);
        // church and chapel mixed: nothing is left of 3, so that neither lanes nor sights may matter
        toldBy(x, 0, 1, 6, 301, 101);
        // swapped: nothing is right of 2
        toldBy(x, 0, 1, 1);
        toldBy(x, 4, 1, 7, 301);
        x.goal(3);
        toldBy(x, 0, 1, 0, 303);
        toldBy(x, 0, 1, 7, 303);
        toldBy(x, 5, 2, 0, 101);
        toldBy(x, 5, 2, 1);
        toldBy(x, 4, 1, 0, 201, 101);
        toldBy(x, 4, 1, 1);
        toldBy(x, 4, 0, 0);
        due("facing 4", x.tell(0, 4, 0, -1), -1);
        due("facing -1", x.tell(0, -1, 0, -1), -1);
        due("corner 6", x.tell(6, 0, 0, -1), -1);
        due("corner -1", x.tell(-1, 0, 0, -1), -1);
        due("slips 8", x.tell(0, 1, 8, -1), -1);
        due("slips -1", x.tell(0, 1, -1, -1), -1);
        due("i -2", x.tell(0, 1, 0, -2), -1);
        due("i far behind", x.tell(0, 1, 0, Integer.MAX_VALUE), -1);
        // each sight six streets ahead, beyond any number
        for (int sight = 1; sight <= 5; sight++) {
            SecondLeft seen = new SecondLeft();
            for (int i = 0; i < 8; i++) {
                seen.corner(i == 6 ? sight : 0);
            }
            for (int i = 0; i < 7; i++) {
                seen.street(i, 1, i + 1, false);
            }
            seen.goal(6);
            toldBy(seen, 0, 1, 0, 310 + sight);
            seen.goal(7);
            toldBy(seen, 0, 1, 2, 303, 304);
        }
        // a row of nine: 4 and 4; a row of 14: 4, 4 and 4 aren't enough
        SecondLeft y = row(14);
        y.goal(8);
        toldBy(y, 0, 1, 0, 304, 304);
        y.goal(7);
        toldBy(y, 0, 1, 0, 303, 304);
        y.goal(10);
        toldBy(y, 0, 1, 0, 302, 304, 304);
        y.goal(12);
        toldBy(y, 0, 1, 0, 304, 304, 304);
        y.goal(13);
        toldBy(y, 0, 1, 0);
    }

    private static void where() {
        SecondLeft x = told(101, 102, 303, 301, 315);
        due("at 1 it is on, too", x.where(0, false), 1);
        due("at 1", x.where(0, true), 2);
        // 2 left: at 1 the lane, at 2 on
        due("at 1 and 2", x.where(1, false), 2);
        due("at 1 and 2", x.where(1, true), 6);
        due("past both", x.where(2, true), 6);
        due("it ends at 1", x.where(3, false), 0);
        due("it ends at 1", x.where(3, true), 0);
        due("it can't be gone", x.where(4, false), -1);
        due("telling 5", x.where(5, false), -1);
        due("telling -1", x.where(-1, true), -1);
        // from the teller's corner on: at 1 facing 1 there is the lane, what is behind is back
        SecondLeft y = village();
        y.teller(1, 0, 0, 0);
        y.telling(0, 1, 301, 0);
        y.telling(0, 0, 301, 0);
        y.telling(0, 3, 301, 0);
        due("the lane", y.where(0, true), 2);
        due("left and right", y.where(1, true), 2);
        due("the lane", y.where(2, true), 2);
        // more than once at the same
        SecondLeft z = ring(3);
        z.teller(1, 0, 0, 0);
        z.telling(0, 1, 304304, 0);
        due("at 0 two times", z.where(0, false), 2);
        due("one corner", z.where(0, true), 1);
    }

    private static void map() {
        SecondLeft x = village();
        // 1, 1, 1 from 0
        due("as it is", x.map(0, 3, 21), 1);
        // 0, 0, 0: by one more
        due("turned", x.map(0, 3, 0), 2);
        // 2: by three more
        due("turned", x.map(0, 1, 2), 8);
        due("from 1 any but down", x.map(1, 1, 0), 11);
        // 1, 0: from 1 right and up; 3, 2 doesn't lie there; 0, 3 neither
        due("the first is the lowest", x.map(1, 2, 1), 1);
        // 0, 1: from 1 up and right; 1, 2 doesn't lie there, 3, 0 neither
        due("up and right", x.map(1, 2, 4), 1);
        // around and around: 0, 1, 2, 3, 0, 1, 2, 3
        due("eight", x.map(1, 8, 0xe4e4), 1);
        due("nowhere", x.map(0, 3, 42), 8);
        due("nowhere", x.map(3, 2, 1), 0);
        due("n 0", x.map(0, 0, 0), -1);
        due("n 9", x.map(0, 9, 0), -1);
        due("too many", x.map(0, 2, 16), -1);
        due("-1", x.map(0, 2, -1), -1);
        due("65536", x.map(0, 8, 65536), -1);
        due("corner 6", x.map(6, 1, 0), -1);
        due("corner -1", x.map(-1, 1, 0), -1);
    }

    private static void signs() {
        due("without a goal", village().signs(), -1);
        SecondLeft x = row(4);
        x.goal(3);
        due("on, or back at the end", x.signs(), 0);
        x.corner(0);
        due("4 has no street to it", x.signs(), 0);
        SecondLeft longest = row(16);
        longest.goal(0);
        due("to the end and back", longest.signs(), 0);
        // a ring with the goal aside: a sign at its foot is enough
        SecondLeft y = ring(5);
        y.goal(5);
        due("one at 0", y.signs(), 1);
        SecondLeft alone = row(1);
        alone.goal(0);
        due("alone", alone.signs(), 0);
        // the goal on the ring: all come to it
        y.goal(2);
        due("on the ring", y.signs(), 0);
        // two rings of three with one street between them: 0 1 2 and 3 4 5, the goal 6 aside of 3
        SecondLeft z = new SecondLeft();
        for (int i = 0; i < 7; i++) {
            z.corner(0);
        }
        for (int i = 0; i < 3; i++) {
            z.street(i, 1, (i + 1) % 3, false);
            z.street(3 + i, 1, 3 + (i + 1) % 3, false);
        }
        z.street(0, 0, 4, true);
        z.street(3, 0, 6, false);
        z.goal(6);
        due("one at 0, one at 3", z.signs(), 9);
        // five rings of three, a goal in the middle of one: more than four signs
        SecondLeft many = new SecondLeft();
        for (int i = 0; i < 16; i++) {
            many.corner(0);
        }
        for (int r = 0; r < 5; r++) {
            for (int i = 0; i < 3; i++) {
                many.street(3 * r + i, 1, 3 * r + (i + 1) % 3, false);
            }
        }
        // one above the other: the middle ones of each ring; the goal above the last
        for (int r = 0; r < 4; r++) {
            many.street(3 * r + 1, 0, 3 * r + 4, false);
        }
        many.street(13, 0, 15, false);
        many.goal(15);
        due("five rings", many.signs(), -1);
        many.goal(13);
        // the fifth ring comes by itself, the other four need one each
        due("four rings", many.signs(), 2 + 16 + 128 + 1024);
    }

    private static void whose() {
        SecondLeft x = told(101, 312, 301);
        // 5: 144 and 96, both with 2, the second with 4
        due("left out", x.whose(0, 5, 2, false), 1);
        due("by", x.whose(0, 5, 2, true), 1);
        due("mixed", x.whose(0, 5, 4, false), 2);
        due("by", x.whose(0, 5, 4, true), 5);
        due("swapped", x.whose(0, 5, 1, false), 0);
        due("by", x.whose(0, 5, 1, true), 1);
        due("mixed, as it seems", x.whose(1, 2, 4, false), 1);
        due("swapped", x.whose(1, 2, 1, false), 1);
        due("by", x.whose(1, 2, 1, true), 5);
        due("left out", x.whose(2, 1, 2, false), 3);
        due("by", x.whose(2, 1, 2, true), 10);
        due("no way", x.whose(0, 0, 1, false), -1);
        due("slip 0", x.whose(0, 5, 0, false), -1);
        due("slip 3", x.whose(0, 5, 3, false), -1);
        due("slip 8", x.whose(0, 5, 8, false), -1);
        due("corner 6", x.whose(0, 6, 1, false), -1);
        due("corner -1", x.whose(0, -1, 1, false), -1);
        due("telling 3", x.whose(3, 5, 1, false), -1);
        due("telling -1", x.whose(-1, 5, 1, false), -1);
        due("of weight 1", branches(1, 8).whose(0, 7, 4, false), 1);
        due("by", branches(1, 8).whose(0, 7, 4, true), 1);
        // the only way there has no weight
        SecondLeft y = village();
        y.teller(0, 0, 0, 0);
        y.telling(0, 1, 101, 0);
        due("never", y.whose(0, 5, 2, false), -1);
    }

    private static void heard() {
        SecondLeft x = told(101, 111, 312);
        due("at 5", x.heard(5), 3);
        due("at 4", x.heard(4), 1);
        due("at 2", x.heard(2), 4);
        due("at 0", x.heard(0), 0);
        due("corner 6", x.heard(6), -1);
        due("corner -1", x.heard(-1), -1);
        SecondLeft y = village();
        y.teller(0, 0, 0, 0);
        y.telling(0, 1, 101, 0);
        due("by a weight above 0", y.heard(5), 0);
    }

    // ---- 42 to 44

    private static void image() {
        SecondLeft x = told(101);
        due("image", x.image(), 6);
        x.corner(0);
        due("image", x.image(), 7);
        x.corner(0);
        due("the latest is gone back to", x.back(), 7);
        x.goal(2);
        due("it stays", x.back(), 7);
        due("without a goal", x.about(1), -1);
    }

    private static void back() {
        SecondLeft x = told(101);
        x.goal(5);
        read(x, "pace 7;");
        x.by(0);
        x.start(0, 1);
        x.ask(0);
        x.day(3, 3);
        x.undo();
        x.image();
        int[] then = new int[9];
        for (int i = 0; i < 9; i++) {
            then[i] = x.about(i);
        }
        x.corner(3);
        x.street(0, 0, 6, true);
        x.goal(1);
        x.teller(1, 1, 1, 1);
        x.telling(0, 1, 102, 0);
        read(x, "pace 9;");
        x.by(1);
        x.walk(1);
        x.day(7, 7);
        read(x, "pace who;");
        x.feed(0, 0, 0, 0, 0);
        due("back", x.back(), 6);
        for (int i = 0; i < 8; i++) {
            due("about(" + i + ")", x.about(i), then[i]);
        }
        due("the tape stays", x.about(8), 20);
        due("the latest fault stays", x.fault(0), 5);
        due("at 0", x.walker(0), 0);
        due("asked once", x.ofTeller(0, 4), 1);
        due("no street up", x.ofCorner(0, 1), -1);
        due("the pace", x.far(0, 1), 7);
        due("steps can be taken back", x.undo(), 1);
        due("never asked", x.ofTeller(0, 4), 0);
        due("back once more", x.back(), 6);
        due("asked once", x.ofTeller(0, 4), 1);
        due("a text comes behind the first", read(x, "goal 0;"), 1);
        // all of it: the last corner's streets, the oldest step
        SecondLeft y = row(16);
        y.start(0, 1);
        y.walk(15);
        y.turn(3);
        y.walk(15);
        y.image();
        y.street(15, 0, 14, true);
        y.day(1, 1);
        y.walk(1);
        y.back();
        due("no street up", y.ofCorner(15, 1), -1);
        due("thirty steps", y.about(7), 30);
        for (int i = 0; i < 30; i++) {
            y.undo();
        }
        due("ahead of all but the start and one street", y.walker(0), 1);
        due("facing 1", y.walker(1), 1);
        due("10 seconds", y.walker(2), 10);
    }

    private static void about() {
        SecondLeft x = told(101, 102);
        x.goal(3);
        read(x, "");
        read(x, "pace 9;");
        x.by(1);
        x.start(0, 0);
        x.feed(0, 0, 0, 0, 0);
        int[] due = {6, 3, 1, 2, 29, 2, 1, 1, 20};
        for (int i = 0; i < due.length; i++) {
            due("about(" + i + ")", x.about(i), due[i]);
        }
        due("about(9)", x.about(9), -2);
        due("about(-1)", x.about(-1), -2);
    }
}
