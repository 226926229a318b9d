import java.util.Arrays;
import java.util.function.IntPredicate;

/**
 * Promises 1 to 44, each at its boundaries: the last value that is still allowed, the first that isn't,
 * the empty and the full case. That a refused call changes nothing is what RefusedTest looks at.
 */
public final class BoundariesTest extends Towns {
    public static void main(String[] args) throws ReflectiveOperationException {
        runAll(BoundariesTest.class, 93);
        endOfTest("all promises hold at their boundaries");
    }

    /** Sixteen corners in a ring, six tellers, eight tellings, four texts; someone stands at 0. */
    private static SecondLeft full() {
        SecondLeft x = corners(16);
        for (int i = 0; i < 16; i++) {
            x.street(i, 1, (i + 1) % 16, false);
        }
        for (int i = 0; i < 6; i++) {
            x.teller(15 - i, 0, 0, 0);
        }
        for (int i = 0; i < 8; i++) {
            x.telling(i % 6, 1, 301 + i % 4, 0);
        }
        for (int i = 0; i < 4; i++) {
            x.text();
        }
        x.start(0, 1);
        return x;
    }

    /** The number of something is allowed up to so many: none without any, the only one, all of them. */
    private static void numbers(String what, int most, IntPredicate ofNone, IntPredicate ofFull) {
        never(what + " of none", ofNone);
        range(what + " of " + most, 0, most - 1, ofFull);
    }

    // ---- 1 to 6: what is told

    private static void p01ANewObjectHasNothing() {
        SecondLeft x = new SecondLeft();
        int[] due = {0, -1, 0, 0, 29, 0, -1, 0, 0};
        for (int i = 0; i < due.length; i++) {
            due("about(" + i + ")", x.about(i), due[i]);
        }
        due("no walker", x.walker(0), -1);
        due("no fault yet", x.fault(0), -1);
        due("no place yet", x.fault(1), -1);
        due("no clash", x.clash(-1), 0);
        due("no signs", x.signs(), -1);
        due("nothing to take back", x.undo(), -1);
    }

    private static void p01TheImageOfANewObjectIsEmpty() {
        due("at once", new SecondLeft().back(), 0);
        SecondLeft x = full();
        x.goal(3);
        x.by(3);
        x.day(1, 1);
        due("from a full one", x.back(), 0);
        int[] due = {0, -1, 0, 0, 29, 0, -1, 0, 0};
        for (int i = 0; i < due.length; i++) {
            due("about(" + i + ")", x.about(i), due[i]);
        }
        due("nobody", x.walker(0), -1);
        due("corners are told from 0", x.corner(4), 0);
        for (int direction = 0; direction < 4; direction++) {
            due("no street is left", x.ofCorner(0, 1 + direction), -1);
        }
        due("tellers are told from 0", x.teller(0, 0, 0, 0), 0);
        due("never asked", x.ofTeller(0, 4), 0);
        due("tellings are told from 0", x.telling(0, 0, 101, 0), 0);
        due("texts are told from 0", x.text(), 0);
    }

    private static void p02CornerNeedsASight() {
        range("sight", 0, 5, v -> new SecondLeft().corner(v) == 0);
        SecondLeft x = new SecondLeft();
        x.corner(6);
        x.corner(-1);
        due("none was told", x.about(0), 0);
        due("the first is 0", x.corner(5), 0);
    }

    private static void p02CornersAreSixteenAtMost() {
        SecondLeft x = corners(15);
        due("the 16th", x.corner(5), 15);
        for (int sight = -1; sight <= 6; sight++) {
            due("the 17th", x.corner(sight), -1);
        }
        due("there are 16", x.about(0), 16);
        due("the 16th's sight", x.ofCorner(15, 0), 5);
    }

    private static void p03StreetNeedsBothCornersAndADirection() {
        never("from, without corners", v -> new SecondLeft().street(v, 0, 0, false));
        never("a street of one corner", v -> row(1).street(0, v, 0, false));
        range("from", 1, 15, v -> corners(16).street(v, 0, 0, false));
        range("from of two", 1, 1, v -> corners(2).street(v, 0, 0, false));
        range("to", 1, 15, v -> corners(16).street(0, 0, v, false));
        range("direction", 0, 3, v -> corners(2).street(0, v, 1, false));
        range("direction of a lane", 0, 3, v -> corners(2).street(1, v, 0, true));
    }

    private static void p03StreetsOfAFullTown() {
        // four from each corner: 32 of them, and none more
        SecondLeft x = corners(16);
        for (int i = 0; i < 16; i++) {
            due("to the right", x.street(i, 1, i / 4 * 4 + (i + 1) % 4, false), true);
            due("down", x.street(i, 2, (i + 4) % 16, true), true);
        }
        for (int from = 0; from < 16; from++) {
            for (int direction = 0; direction < 4; direction++) {
                due("no more", x.street(from, direction, (from + 5) % 16, false), false);
                due("a lane or not", x.ofCorner(from, 5 + direction), 1 - direction % 2);
            }
        }
    }

    private static void p04GoalIsACornerOrNone() {
        range("goal without corners", -1, -1, v -> new SecondLeft().goal(v));
        range("goal of one", -1, 0, v -> row(1).goal(v));
        range("goal of 16", -1, 15, v -> corners(16).goal(v));
        SecondLeft x = corners(16);
        x.goal(15);
        due("refused", x.goal(16), false);
        due("refused", x.goal(-2), false);
        due("as it was", x.about(1), 15);
        x.goal(-1);
        due("none again", x.about(1), -1);
    }

    private static void p05TellerNeedsACornerAndSlips() {
        numbers("corner", 16, v -> new SecondLeft().teller(v, 0, 0, 0) == 0, v -> corners(16).teller(v, 0, 0, 0) == 0);
        range("corner of one", 0, 0, v -> row(1).teller(v, 0, 0, 0) == 0);
        range("swap", 0, 10, v -> row(1).teller(0, v, 5, 5) == 0);
        range("leave", 0, 10, v -> row(1).teller(0, 5, v, 5) == 0);
        range("mix", 0, 10, v -> row(1).teller(0, 5, 5, v) == 0);
    }

    private static void p05TellersAreSixAtMost() {
        SecondLeft x = row(2);
        for (int i = 0; i < 5; i++) {
            x.teller(0, 0, 0, 0);
        }
        due("the 6th", x.teller(1, 10, 9, 8), 5);
        due("the 7th", x.teller(1, 10, 9, 8), -1);
        int[] due = {1, 10, 9, 8, 0};
        for (int i = 0; i < due.length; i++) {
            due("of the 6th", x.ofTeller(5, i), due[i]);
            due("of a 7th", x.ofTeller(6, i), -1);
        }
    }

    private static void p06TellingNeedsATellerAndADirection() {
        never("without a teller", v -> row(1).telling(v, 0, 101, 0) == 0);
        range("teller of one", 0, 0, v -> told().telling(v, 0, 101, 0) == 0);
        range("teller of six", 0, 5, v -> {
            SecondLeft x = row(1);
            for (int i = 0; i < 6; i++) {
                x.teller(0, 0, 0, 0);
            }
            return x.telling(v, 0, 101, 0) == 0;
        });
        range("facing", 0, 3, v -> told().telling(0, v, 101, 0) == 0);
    }

    private static void p06TheFirstThreeTurns() {
        int[] good = {101, 315, 101101, 315315, 101101101, 315315315};
        int[] bad = {LEAST, -315315315, -101, -1, 0, 1, 100, 316, 401, 999, 1000, 1101, 100101, 101100, 316101, 101316, 999999,
            1000000, 1101101, 100101101, 101100101, 101101100, 315315316, 316315315, 999999999, 1000000000, 1101101101,
            GREATEST};
        for (int turns : good) {
            due("turns " + turns, told().telling(0, 0, turns, 0), 0);
        }
        for (int turns : bad) {
            due("turns " + turns, told().telling(0, 0, turns, 0), -1);
            due("turns " + turns + " with others", told().telling(0, 0, turns, 101), -1);
        }
    }

    private static void p06TheOtherTurns() {
        int[] good = {0, 101, 315, 101101, 315315, 101101101, 315315315};
        int[] bad = {LEAST, -315315315, -101, -1, 1, 100, 316, 401, 999, 1000, 1101, 100101, 101100, 316101, 101316, 999999,
            1000000, 1101101, 100101101, 101100101, 101101100, 315315316, 316315315, 999999999, 1000000000, 1101101101,
            GREATEST};
        for (int more : good) {
            due("others " + more, told().telling(0, 0, 101101101, more), 0);
            due("others " + more + " behind two", told().telling(0, 0, 101101, more), more == 0 ? 0 : -1);
            due("others " + more + " behind one", told().telling(0, 0, 101, more), more == 0 ? 0 : -1);
            due("others " + more + " behind none", told().telling(0, 0, 0, more), -1);
        }
        for (int more : bad) {
            due("others " + more, told().telling(0, 0, 101101101, more), -1);
        }
    }

    private static void p06TellingsAreEightAtMost() {
        SecondLeft x = told(101, 102, 103, 104, 201, 202, 203);
        due("the 8th", x.telling(0, 3, 304315303, 302311301), 7);
        due("the 9th", x.telling(0, 3, 304, 0), -1);
        due("of the 8th", x.ofTelling(7, 15), 301);
        due("of a 9th", x.ofTelling(8, 0), -1);
        // a refused one leaves nothing behind for the next
        SecondLeft y = told();
        y.telling(0, 0, 101102103, 104999104);
        y.telling(0, 0, 311, 0);
        due("its only turn", y.ofTelling(0, 10), 311);
        due("one of them", y.ofTelling(0, 2), 1);
        due("no second", y.ofTelling(0, 11), -1);
    }

    // ---- 7 to 11: texts

    private static void p07FeedUpTo300() {
        SecondLeft x = new SecondLeft();
        for (int i = 1; i <= 15; i++) {
            due("feed " + i, x.feed(-1, 0, 1, LEAST, GREATEST), 20 * i);
        }
        due("the 16th", x.feed(0, 0, 0, 0, 0), -1);
        for (int n : new int[] {299, 290, 281}) {
            x.end(n);
            due("20 behind " + n, x.feed(0, 0, 0, 0, 0), -1);
            due("none come", x.about(8), n);
        }
        x.end(280);
        due("20 behind 280", x.feed(0, 0, 0, 0, 0), 300);
        x.end(0);
        due("20 behind none", x.feed(0, 0, 0, 0, 0), 20);
    }

    private static void p07TheHighestByteComesFirst() {
        // one byte that is no token among nineteen blanks: its fault shows where it stands
        for (int i = 0; i < 20; i++) {
            int[] v = new int[5];
            for (int k = 0; k < 20; k++) {
                v[k / 4] |= (k == i ? '#' : ' ') << 8 * (3 - k % 4);
            }
            SecondLeft x = new SecondLeft();
            x.feed(v[0], v[1], v[2], v[3], v[4]);
            x.text();
            due("place of byte " + i, x.fault(1), i);
        }
    }

    private static void p07TheFarthestBytes() {
        // 0 and 255 are bytes like others, but no tokens
        for (int v : new int[] {0, -1, 0x00202020, 0xff202020}) {
            SecondLeft x = new SecondLeft();
            due("fed", x.feed(0x20202020, 0x20202020, v, 0x20202020, 0x20202020), 20);
            due("no text", x.text(), -1);
            due("no token", x.fault(0), 1);
            due("at its place", x.fault(1), 8);
        }
    }

    private static void p08EndUpToWhatThereIs() {
        range("end of none", 0, 0, v -> v >= 0 && new SecondLeft().end(v) == v);
        range("end of 20", 0, 20, v -> {
            SecondLeft x = new SecondLeft();
            x.feed(0, 0, 0, 0, 0);
            return x.end(v) == v && x.about(8) == v;
        });
        range("end of 300", 0, 300, v -> {
            SecondLeft x = new SecondLeft();
            put(x, " ".repeat(300));
            return x.end(v) == v && x.about(8) == v;
        });
        SecondLeft x = new SecondLeft();
        x.feed(0, 0, 0, 0, 0);
        x.end(19);
        due("not so many any more", x.end(20), -1);
        due("19", x.about(8), 19);
    }

    private static void p08WhatIsCutOffIsGone() {
        String[] texts = {"goal 15;", "goals 0;", "goal 100;"};
        int[] ends = {3, 4, 6};
        int[] places = {0, 4, 6};
        for (int i = 0; i < texts.length; i++) {
            SecondLeft x = new SecondLeft();
            put(x, texts[i]);
            x.end(ends[i]);
            due("a fault", x.text(), -1);
            due("of what is left alone", x.fault(0), 1);
            due("place of '" + texts[i] + "' cut to " + ends[i], x.fault(1), places[i]);
        }
        SecondLeft x = new SecondLeft();
        put(x, "goal 0;goal 1;");
        x.end(7);
        due("one clause is left", x.text(), 0);
        put(x, "goal 1;");
        due("what comes next comes behind it", x.about(8), 7);
        x.end(5);
        put(x, "2;");
        due("a number anew", x.text(), 1);
        SecondLeft two = row(3);
        two.end(0);
        put(two, "goal 1;");
        two.end(5);
        put(two, "2;");
        two.played(two.text());
        due("the goal", two.about(1), 2);
    }

    private static void p09TextsAreFourAtMost() {
        SecondLeft x = new SecondLeft();
        for (int i = 0; i < 3; i++) {
            x.text();
        }
        due("a fault is no text", read(x, "goal"), -1);
        due("three yet", x.about(5), 3);
        due("the 4th", read(x, "goal 0;"), 3);
        put(x, "goal");
        due("the 5th", x.text(), -1);
        due("the tape stays", x.about(8), 4);
        due("it wasn't read", x.fault(0), 0);
        x.back();
        due("the tape stays over that", x.about(8), 4);
        due("now it is read", x.text(), -1);
        due("with a fault", x.fault(0), 1);
        due("the tape is empty then", x.about(8), 0);
    }

    private static void p10FaultHasTwoSides() {
        never("what ahead of any", v -> new SecondLeft().fault(v) != -1);
        range("what", 0, 1, v -> {
            SecondLeft x = new SecondLeft();
            read(x, "goal");
            return x.fault(v) != -1;
        });
        SecondLeft x = new SecondLeft();
        read(x, "pace 1;pace 1;");
        due("its fault", x.fault(0), 4);
        due("its place", x.fault(1), 7);
        x.text();
        due("of the latest: none", x.fault(0), 0);
        due("no place", x.fault(1), -1);
        read(x, "goal 16;");
        due("of the latest", x.fault(0), 2);
        x.back();
        due("it stays over back", x.fault(1), 5);
    }

    private static void p11ByATextOrNone() {
        range("by without texts", -1, -1, v -> new SecondLeft().by(v));
        range("by of one", -1, 0, v -> {
            SecondLeft x = new SecondLeft();
            x.text();
            return x.by(v);
        });
        range("by of four", -1, 3, v -> full().by(v));
        SecondLeft x = full();
        x.by(3);
        x.by(4);
        x.by(-2);
        due("as it was", x.about(6), 3);
    }

    // ---- 12 to 20: the walker

    private static void p12StartNeedsACornerAndADirection() {
        never("without corners", v -> new SecondLeft().start(v, 0));
        range("corner of one", 0, 0, v -> row(1).start(v, 0));
        range("corner of 16", 0, 15, v -> corners(16).start(v, 0));
        range("facing", 0, 3, v -> row(1).start(0, v));
    }

    private static void p13WalkOneToTwenty() {
        never("nobody walks", v -> ring(5).walk(v) >= 0);
        range("walk around", 1, 20, v -> {
            SecondLeft x = ring(5);
            x.start(0, 1);
            return x.walk(v) == v % 5;
        });
    }

    private static void p13WalkAsFarAsItGoes() {
        for (int n = 1; n <= 16; n++) {
            SecondLeft x = row(16);
            x.start(0, 1);
            due("walk " + n + " of 15", x.walk(n), n <= 15 ? n : -1);
            due("corner", x.walker(0), n <= 15 ? n : 0);
            due("seconds", x.walker(2), n <= 15 ? 10 * n : 0);
            due("steps", x.about(7), n <= 15 ? 1 + n : 1);
        }
        SecondLeft x = row(1);
        x.start(0, 0);
        due("no street at all", x.walk(1), -1);
    }

    private static void p14TurnOneToThree() {
        never("nobody turns", v -> row(1).turn(v) >= 0);
        range("side", 1, 3, v -> {
            SecondLeft x = row(1);
            x.start(0, 0);
            return x.turn(v) >= 0 && x.about(7) == 2;
        });
        int[][] due = {{3, 1, 2}, {0, 2, 3}, {1, 3, 0}, {2, 0, 1}};
        for (int facing = 0; facing < 4; facing++) {
            for (int side = 1; side <= 3; side++) {
                SecondLeft x = row(1);
                x.start(0, facing);
                due("side " + side + " of " + facing, x.turn(side), due[facing][side - 1]);
            }
        }
    }

    private static void p15AskWhoIsThere() {
        never("nobody asks", v -> told().ask(v) >= 0);
        never("nobody is asked", v -> {
            SecondLeft x = row(1);
            x.start(0, 0);
            return x.ask(v) >= 0;
        });
        range("six are there", 0, 5, v -> {
            SecondLeft x = row(1);
            for (int i = 0; i < 6; i++) {
                x.teller(0, 0, 0, 0);
            }
            x.start(0, 0);
            return x.ask(v) == 1 && x.walker(2) == 20;
        });
        range("only the last is there", 5, 5, v -> {
            SecondLeft x = row(2);
            for (int i = 0; i < 6; i++) {
                x.teller(i / 5, 0, 0, 0);
            }
            x.start(1, 0);
            return x.ask(v) == 1;
        });
    }

    private static void p16FollowATelling() {
        never("nobody follows", v -> told(101).follow(v) >= 0);
        never("nothing is told", v -> {
            SecondLeft x = told();
            x.start(0, 1);
            return x.follow(v) >= 0;
        });
        range("of eight", 0, 7, v -> full().follow(v) == 1);
        SecondLeft x = saying(row(3), 0, 1, 302);
        x.start(0, 1);
        due("all of it", x.follow(0), 1);
        due("there", x.walker(0), 2);
        x.start(1, 1);
        due("not all of it", x.follow(0), 0);
        due("as far as it goes", x.walker(0), 2);
        due("10 seconds", x.walker(2), 10);
        due("nothing of it", x.follow(0), 0);
        due("each a step", x.about(7), 5);
    }

    private static void p16FollowTakesThePaceOfEachStreet() {
        // 0 to 1: 11; the lane up to 4: 40; to 5: 5 * 3 and 1
        SecondLeft x = ruled(saying(village(), 0, 1, 101201), "pace 40*narrow+5*sight+way+10*(1-least of 1,sight+narrow end);");
        x.start(0, 1);
        due("all of it", x.follow(0), 1);
        due("at the well", x.walker(0), 5);
        due("seconds", x.walker(2), 11 + 40 + 16);
        // from 3 to the left: 5 * 1 and 3, then 13, then 13
        SecondLeft y = ruled(saying(village(), 0, 1, 303), "pace 40*narrow+5*sight+way+10*(1-least of 1,sight+narrow end);");
        y.start(3, 3);
        due("all of it", y.follow(0), 1);
        due("at 0", y.walker(0), 0);
        due("seconds", y.walker(2), 8 + 13 + 13);
    }

    private static void p17PlayedByATextThatIsThere() {
        for (int v : new int[] {LEAST, -2, -1, 0, 1, GREATEST}) {
            due("without texts", new SecondLeft().played(v), -2);
        }
        int[] of = {LEAST, -1, 0, 3, 4, GREATEST};
        int[] due = {-2, -2, -1, -1, -2, -2};
        for (int i = 0; i < of.length; i++) {
            due("of four", full().played(of[i]), due[i]);
        }
    }

    private static void p18DayBySeedAndNumber() {
        never("without corners", v -> new SecondLeft().day(v, 1) >= 0);
        range("seed", 0, 9999, v -> full().day(v, 1) >= 0);
        range("n", 1, 30, v -> full().day(0, v) >= 0);
        for (int seed : new int[] {0, 1, 9998, 9999}) {
            for (int n : new int[] {1, 2, 29, 30}) {
                dayOf(seed, n);
            }
        }
    }

    /** In a ring of 16 with a teller at each of six corners, by the document's own numbers. */
    private static void dayOf(int seed, int n) {
        SecondLeft x = full();
        int steps = x.about(7);
        long number = 4L * seed + 29;
        int at = (int) (number % 16);
        int facing = (int) (number % 4);
        int seconds = 0;
        number = (number * 229 + 127) % 30181;
        for (int i = 0; i < n; i++) {
            if (number % 4 == 0) {
                facing = (facing + 1) % 4;
            } else if (number % 4 == 1) {
                seconds += at >= 10 ? 20 : 0;
            } else if (facing % 2 == 1) {
                at = (at + (facing == 1 ? 1 : 15)) % 16;
                seconds += 10;
            } else {
                facing = (facing + 3) % 4;
            }
            number = (number * 229 + 127) % 30181;
        }
        due("day(" + seed + ", " + n + ")", x.day(seed, n), seconds);
        due("corner", x.walker(0), at);
        due("facing", x.walker(1), facing);
        due("seconds", x.walker(2), seconds);
        due("X", x.about(4), number);
        due("one step", x.about(7), steps + 1);
    }

    private static void p18DayOfOneCorner() {
        SecondLeft x = row(1);
        due("nothing to walk, nobody to ask", x.day(9999, 30), 0);
        due("at the only corner", x.walker(0), 0);
    }

    private static void p19UndoWhatThereIs() {
        SecondLeft x = row(1);
        due("none at first", x.undo(), -1);
        x.start(0, 3);
        due("one", x.undo(), 0);
        due("none any more", x.undo(), -1);
        due("nobody", x.walker(1), -1);
        x.start(0, 3);
        for (int i = 0; i < 29; i++) {
            x.turn(1);
        }
        due("thirty", x.undo(), 29);
        x.turn(1);
        x.turn(1);
        due("thirty of 31", x.undo(), 29);
    }

    private static void p20WalkerHasThreeSides() {
        never("nobody", v -> row(1).walker(v) != -1);
        range("what", 0, 2, v -> {
            SecondLeft x = row(1);
            x.start(0, 0);
            return x.walker(v) == 0;
        });
    }

    // ---- 21 to 23

    private static void p21OfCornerHasNineSides() {
        for (int v : new int[] {LEAST, -2, -1, 0, 1, GREATEST}) {
            due("without corners", new SecondLeft().ofCorner(v, 0), -2);
        }
        range("corner of 16", 0, 15, v -> corners(16).ofCorner(v, 0) != -2);
        range("what", 0, 8, v -> row(1).ofCorner(0, v) != -2);
        for (int what = 1; what <= 8; what++) {
            due("without streets", row(1).ofCorner(0, what), -1);
        }
        SecondLeft x = full();
        due("to 15", x.ofCorner(0, 4), 15);
        due("to 0", x.ofCorner(15, 2), 0);
        due("no lane", x.ofCorner(15, 6), 0);
    }

    private static void p22OfTellerHasFiveSides() {
        never("without tellers", v -> row(1).ofTeller(v, 0) != -1);
        range("teller of six", 0, 5, v -> full().ofTeller(v, 0) >= 0);
        range("what", 0, 4, v -> full().ofTeller(0, v) >= 0);
    }

    private static void p23OfTellingHasItsSides() {
        never("without tellings", v -> told().ofTelling(v, 0) != -1);
        range("telling of eight", 0, 7, v -> full().ofTelling(v, 0) >= 0);
        range("what", 0, 5, v -> full().ofTelling(0, v) >= 0);
        range("the turn of one", 10, 10, v -> v < 9 ? v == 10 : full().ofTelling(0, v) >= 0);
        SecondLeft x = told();
        x.telling(0, 1, 101102103, 104111112);
        due("what 9", x.ofTelling(0, 9), -1);
        due("what 6", x.ofTelling(0, 6), -1);
        due("the first", x.ofTelling(0, 10), 101);
        due("the sixth", x.ofTelling(0, 15), 112);
        due("the seventh", x.ofTelling(0, 16), -1);
        due("far behind", x.ofTelling(0, GREATEST), -1);
    }

    private static void p23OfTellingHasNoOtherLaws() {
        SecondLeft x = ruled(told(101), "swaps 1;leaves 2;mixes 3;pace 4;asks 5;");
        int[] due = {0, 1, 1, 1, 2, 3, -1, -1, -1, -1, 101, -1};
        for (int what = 0; what < due.length; what++) {
            due("ofTelling(0, " + what + ")", x.ofTelling(0, what), due[what]);
        }
    }

    private static void p23OfATellingThatIsntByLaws() {
        // a law would have a number for everyone: who isn't there has none
        for (int tellings = 0; tellings <= 8; tellings += 4) {
            SecondLeft x = told();
            for (int i = 0; i < tellings; i++) {
                x.telling(0, 1, 101, 0);
            }
            ruled(x, "swaps 1;leaves 2;mixes 3;pace 4;asks 5;");
            for (int telling : new int[] {LEAST, -1, tellings, GREATEST}) {
                for (int what = 0; what <= 10; what++) {
                    due("ofTelling(" + telling + ", " + what + ")", x.ofTelling(telling, what), -1);
                }
                due("likely", x.likely(telling, -1), -1);
                due("safeSoFar", x.safeSoFar(telling, 0, false), -1);
                due("howFar", x.howFar(telling, 1), -1);
                due("whose", x.whose(telling, 4, 1, true), -1);
            }
        }
    }

    // ---- 24 to 29: where tellings lead

    private static void p24LeadsByTellingAndSlips() {
        never("without tellings", v -> told().leads(v, 0) != -1);
        range("telling of eight", 0, 7, v -> full().leads(v, 0) >= 0);
        range("slips", 0, 7, v -> full().leads(0, v) >= 0);
        due("it can't be gone", told(304304).leads(0, 0), -1);
    }

    private static void p25LikelyByTellingAndCorner() {
        never("without tellings", v -> told().likely(v, 0) != -1);
        range("telling of eight", 0, 7, v -> full().likely(v, 0) >= 0);
        range("corner of 16", -1, 15, v -> full().likely(0, v) >= 0);
        due("nowhere at all", told(304304).likely(0, -1), 0);
        due("nowhere at all", told(304304).likely(0, 0), 0);
        due("anywhere", full().likely(0, -1), 1000);
        due("always there", full().likely(0, 0), 1000);
        due("never there", full().likely(0, 15), 0);
        due("a thousandth", branches(1, 15).likely(0, 10), 1);
    }

    private static void p26ByAllOfOneToFour() {
        never("without tellings", v -> told().byAll(v, 0, true) != -1);
        range("sets of one telling", 1, 1, v -> told(101).byAll(v, 0, true) != -1);
        for (int set = -2; set <= 300; set++) {
            boolean is = set >= 1 && set <= 255 && Integer.bitCount(set) <= 4;
            due("set " + set, full().byAll(set, 0, true) != -1, is);
        }
        due("the least set", full().byAll(LEAST, 0, true), -1);
        due("the greatest set", full().byAll(GREATEST, 0, true), -1);
        due("a telling that isn't", told(101, 102).byAll(4, 0, true), -1);
        due("one that is and one that isn't", told(101, 102).byAll(5, 0, true), -1);
        range("corner of 16", 0, 15, v -> full().byAll(1, v, true) != -1);
    }

    private static void p26ByAllInLowestTerms() {
        SecondLeft x = full();
        due("sure", x.byAll(1, 0, false), 1);
        due("by 1", x.byAll(1, 0, true), 1);
        due("never", x.byAll(1, 5, false), 0);
        due("by 1", x.byAll(1, 5, true), 1);
        // 0 and 4 lead to different corners
        due("all are 0", x.byAll(17, 0, false), 0);
        due("by 1", x.byAll(17, 0, true), 1);
        // four times the same: 1 of 1000 to the fourth, and all of them together
        SecondLeft y = branches(1, 15);
        for (int i = 0; i < 3; i++) {
            y.telling(0, 1, 101311, 0);
        }
        long all = 0;
        for (long weight : new long[] {729, 81, 81, 9, 81, 9, 9, 1}) {
            all += weight * weight * weight * weight;
        }
        due("the least", y.byAll(15, 10, false), 1);
        due("of all", y.byAll(15, 10, true), all);
        due("the greatest", y.byAll(15, 3, false), 729L * 729 * 729 * 729);
        due("of all", y.byAll(15, 3, true), all);
    }

    private static void p27ClashOfNoneAndOfAll() {
        due("without tellings", told().clash(-1), 0);
        due("without tellings", told().clash(0), -1);
        due("one", told(101).clash(-1), 0);
        due("two alike", told(101, 101).clash(-1), 0);
        due("two alike", told(101, 101).clash(0), -1);
        SecondLeft x = row(10);
        for (int i = 0; i < 8; i++) {
            // eight tellings that lead to eight corners
            x.telling(i < 4 ? x.teller(2 * i, 0, 0, 0) : i - 4, 1, i < 4 ? 301 : 302, 0);
        }
        due("28 twos", x.clash(-1), 28);
        range("i", -1, 27, v -> x.clash(v) >= 0);
        due("the first", x.clash(0), 1);
        due("the seventh", x.clash(6), 7);
        due("the eighth", x.clash(7), 10);
        due("the last", x.clash(27), 55);
    }

    private static void p27TellingsThatLeadNowhereClash() {
        SecondLeft x = told(304304, 304304, 101);
        due("all of three", x.clash(-1), 3);
        due("0 and 1", x.clash(0), 1);
        due("0 and 2", x.clash(1), 2);
        due("1 and 2", x.clash(2), 10);
    }

    private static void p28WrongOfOneToEight() {
        never("without tellings", v -> told().wrong(v, false) != -1);
        range("sets of one telling", 1, 1, v -> told(101).wrong(v, false) != -1);
        range("sets of eight", 1, 255, v -> full().wrong(v, false) != -1);
        range("sets of eight, corner", 1, 255, v -> full().wrong(v, true) != -1);
        due("a telling that isn't", told(101, 102).wrong(4, true), -1);
    }

    private static void p28NoneIsWrongOrAllAre() {
        SecondLeft x = told(101, 101, 101, 101, 101, 101, 101, 101);
        due("none of eight", x.wrong(255, false), 0);
        due("at the lowest", x.wrong(255, true), 4);
        SecondLeft y = told(304304, 304304, 304304, 304304, 304304, 304304, 304304, 304304);
        due("all of eight", y.wrong(255, false), 255);
        due("at the lowest", y.wrong(255, true), 0);
        due("the last of eight", y.wrong(128, false), 128);
        // of like ones the lowest: 0 or 1 wrong
        SecondLeft z = saying(saying(row(3), 2, 3, 301), 0, 1, 302);
        due("of like ones the lowest", z.wrong(3, false), 1);
        due("its corner", z.wrong(3, true), 2);
    }

    private static void p29FarBetweenCorners() {
        never("without corners", v -> new SecondLeft().far(v, v) != -1);
        range("from of 16", 0, 15, v -> full().far(v, 0) >= 0);
        range("to of 16", 0, 15, v -> full().far(0, v) >= 0);
        due("to itself", row(1).far(0, 0), 0);
        due("not at all", corners(2).far(0, 1), -1);
        due("as far as can be", ruled(row(16), "pace 99;").far(0, 15), 15 * 99);
        due("around the other way", full().far(0, 15), 10);
        due("half around", full().far(0, 8), 80);
    }

    // ---- 30, 31

    private static void p30SeeNeedsSomeoneAndASet() {
        due("nobody", told(101).see(1, 0), -1);
        never("without tellings", v -> {
            SecondLeft x = told();
            x.start(0, 1);
            return x.see(v, 0) != -1;
        });
        for (int set = -2; set <= 300; set++) {
            boolean is = set == 17 || set == 34 || set == 68 || set == 136
                    || set >= 1 && set <= 255 && Integer.bitCount(set) == 1;
            // each of the first four leads to a corner of its own, each of the last four as well
            SecondLeft x = corners(16);
            for (int i = 0; i < 15; i++) {
                x.street(i, 1, i + 1, false);
            }
            x.teller(0, 0, 0, 0);
            for (int i = 0; i < 8; i++) {
                x.telling(0, 1, 301 + i % 4, 0);
            }
            x.start(0, 1);
            due("set " + set, x.see(set, 0) != -1, is);
        }
        SecondLeft y = told(101, 101, 101, 101, 101);
        y.start(0, 1);
        due("four", y.see(15, 0), 4);
        due("five", y.see(31, 0), -1);
        due("nor asked", y.orAsk(31), -1);
    }

    private static void p30SeeUpToFiveCorners() {
        due("one corner", full().see(1, 0), 0);
        for (int chapels = 0; chapels <= 15; chapels++) {
            SecondLeft x = branches(5, chapels);
            int corners = 4 + Integer.bitCount(chapels);
            due(corners + " corners", x.see(1, 0) != -1, corners <= 5);
            due(corners + " corners, the mean", x.see(1, -1) != -1, corners <= 5);
            int[] is = {LEAST, -3, -2, -1, 0, 3, 4, corners - 1, corners, 5, GREATEST};
            for (int i : is) {
                due("i " + i, x.see(1, i) != -1, corners <= 5 && i >= -2 && i < corners);
            }
        }
    }

    private static void p30SeeNoCorner() {
        SecondLeft x = told(304304, 101, 111);
        x.start(0, 1);
        due("it leads nowhere", x.see(1, 0), -1);
        due("nor is there a mean", x.see(1, -1), -1);
        due("nor its lower one", x.see(1, -2), -1);
        due("nor asked", x.orAsk(1), -1);
        due("5 alone", x.see(6, 0), 5);
    }

    private static void p30SeeWhatCantBeComeTo() {
        SecondLeft x = told(101);
        x.start(x.corner(0), 0);
        for (int i = -3; i <= 2; i++) {
            due("i " + i, x.see(1, i), -1);
        }
        due("nor asked", x.orAsk(1), -1);
        x.street(6, 1, 0, false);
        due("now it can", x.see(1, 0), 4);
    }

    private static void p30SeeWhereOneIs() {
        SecondLeft x = full();
        due("here", x.see(1, 0), 0);
        due("at once", x.see(1, -1), 0);
        due("by 1", x.see(1, -2), 1);
        due("no second", x.see(1, 1), -1);
    }

    private static void p30SeeTheLeastAndOfLikeOnesTheLowest() {
        // 2 and 3 lie as far and are as likely; with 4 to 6 the likelier goes first
        for (int swap = 1; swap <= 9; swap++) {
            SecondLeft x = cross(swap);
            x.start(0, 0);
            due("first with swap " + swap, x.see(1, 0), swap <= 5 ? 2 : 3);
            due("then", x.see(1, 1), swap <= 5 ? 3 : 2);
            // 20 and 40: 20 and 20 times the less likely
            int mean = 20 + 2 * Math.min(swap, 10 - swap);
            due("mean with swap " + swap, x.see(1, -1), mean);
        }
    }

    private static void p31OrAskOnlyIfItIsSooner() {
        never("without tellings", v -> {
            SecondLeft x = told();
            x.start(0, 1);
            return x.orAsk(v) != -1;
        });
        due("nobody", cross(5).orAsk(1), -1);
        // to see takes 30 on the mean, to ask so much and 20
        for (int asks = 8; asks <= 12; asks++) {
            SecondLeft x = ruled(cross(5), "asks " + asks + ";");
            x.start(0, 0);
            due("asks " + asks, x.orAsk(1), asks < 10 ? 0 : -1);
        }
        due("without a law it is 20", whoIsAsked(cross(5)), -1);
    }

    private static void p31OrAskIfItIsSoonerByTheLeast() {
        // to see 2 and then 3 takes 20 and twice the swaps on the mean, to ask 20 and asks
        for (int swap = 1; swap <= 5; swap++) {
            for (int asks = 0; asks <= 10; asks++) {
                SecondLeft x = ruled(cross(swap), "asks " + asks + ";");
                due("swap " + swap + ", asks " + asks, whoIsAsked(x), asks < 2 * swap ? 0 : -1);
            }
        }
        // only as said (729, to 3) and with all slips (1, to 6) it leads anywhere; from 7 both are a second away,
        // and so is one from the other: 731 of 730 seconds to see them, 730 of 730 to ask at 7
        int[] asks = {0, 1};
        for (int seconds : asks) {
            SecondLeft x = rowOf(0, 0, 0);
            for (int sight : new int[] {1, 0, 0, 2, 0}) {
                x.corner(sight);
            }
            for (int i = 0; i < 4; i++) {
                x.street(1 + i / 2, 2 * (i % 2), 3 + i, i < 2);
            }
            x.street(7, 1, 3, false);
            x.street(7, 3, 6, false);
            x.street(3, 1, 6, false);
            x.teller(0, 1, 1, 1);
            x.telling(0, 1, 101311, 0);
            x.teller(7, 0, 0, 0);
            ruled(x, "pace 1;asks " + seconds + ";");
            x.start(7, 0);
            due("to see", x.see(1, -1), 731);
            due("by", x.see(1, -2), 730);
            due("or ask for " + seconds, x.orAsk(1), seconds == 0 ? 1 : -1);
        }
    }

    private static int whoIsAsked(SecondLeft x) {
        x.start(0, 0);
        return x.orAsk(1);
    }

    private static void p31OrAskOfLikeOnesTheLowest() {
        for (int best = 0; best < 6; best++) {
            SecondLeft x = cross(5);
            for (int i = 1; i < 6; i++) {
                x.teller(0, 0, 0, 0);
            }
            // 0 from the best on, 1 ahead of it
            ruled(x, "asks most of 0,least of 1," + best + "-who end end;");
            due("the lowest of the cheapest", whoIsAsked(x), best);
        }
        SecondLeft y = cross(5);
        y.teller(y.corner(0), 0, 0, 0);
        ruled(y, "asks 9-9*who;");
        due("who can't be come to isn't asked", whoIsAsked(y), 0);
    }

    // ---- 32 to 35

    private static void p32SafeSoFarOfNoTurnToAll() {
        never("without tellings", v -> told().safeSoFar(v, 0, true) != -1);
        range("telling of eight", 0, 7, v -> full().safeSoFar(v, 0, true) == 1);
        range("k of one", 0, 1, v -> told(101).safeSoFar(0, v, true) != -1);
        range("k of six", 0, 6, v -> {
            SecondLeft x = told();
            x.telling(0, 1, 301301301, 301301301);
            return x.safeSoFar(0, v, true) != -1;
        });
        for (int slip = 0; slip <= 10; slip += 10) {
            SecondLeft x = branches(slip, 15);
            due("no turn is safe", x.safeSoFar(0, 0, false), 1);
            due("by 1", x.safeSoFar(0, 0, true), 1);
            due("one turn", x.safeSoFar(0, 1, false), slip == 0 ? 1 : 0);
            due("by 1", x.safeSoFar(0, 1, true), 1);
        }
        SecondLeft never = told(304304);
        due("it can't be gone", never.safeSoFar(0, 1, false), 0);
        due("by 1", never.safeSoFar(0, 1, true), 1);
        SecondLeft least = branches(9, 15);
        due("a thousandth", least.safeSoFar(0, 2, false), 1);
        due("by 1000", least.safeSoFar(0, 2, true), 1000);
    }

    private static void p33HowFarByOneToHundred() {
        never("without tellings", v -> told().howFar(v, 1) != -1);
        range("telling of eight", 0, 7, v -> full().howFar(v, 1) == 1);
        range("q", 1, 100, v -> full().howFar(0, v) == 1);
        // three of ten swap: 70 of 100 are as said
        for (int q = 69; q <= 71; q++) {
            due("q " + q, cross(3).howFar(0, q), q <= 70 ? 1 : 0);
        }
        due("a hundredth is not enough", branches(9, 15).howFar(0, 1), 1);
        due("none can be gone", told(304304).howFar(0, 1), 0);
        SecondLeft six = row(16);
        six.teller(0, 5, 5, 5);
        six.telling(0, 1, 301301301, 301301301);
        due("all six", six.howFar(0, 100), 6);
    }

    private static void p33HowFarByLessThanAHundredth() {
        // 810 and 729 of 1000
        int[] q = {72, 73, 81, 82};
        int[] due = {2, 1, 1, 0};
        for (int i = 0; i < q.length; i++) {
            due("q " + q[i], branches(1, 15).howFar(0, q[i]), due[i]);
        }
    }

    private static void p34LostOfTwoTurnsOrMore() {
        never("without tellings", v -> told().lost(v, 0) != -1);
        range("telling of eight", 0, 7, v -> {
            SecondLeft x = row(3);
            x.teller(0, 0, 0, 0);
            for (int i = 0; i < 8; i++) {
                x.telling(0, 1, 301301, 0);
            }
            return x.lost(v, 1) == 0;
        });
        range("corner", 1, 1, v -> saying(row(3), 0, 1, 301301).lost(0, v) >= 0);
        // of one turn nothing is left that could lead anywhere
        for (int corner = 0; corner < 3; corner++) {
            due("one turn", saying(row(3), 0, 1, 301).lost(0, corner), -1);
        }
        SecondLeft x = row(16);
        x.teller(0, 0, 0, 0);
        x.telling(0, 1, 302302302, 302302301);
        due("the first", x.lost(0, 9), 0);
        due("the last", x.lost(0, 10), 5);
        due("none", x.lost(0, 11), -1);
    }

    private static void p35ListenInItsRanges() {
        SecondLeft x = new SecondLeft();
        range("n", 1, 6, v -> x.listen(v, 3, 5, 5, true) != -1);
        range("m", 0, 6, v -> x.listen(3, v, 5, 5, true) != -1);
        range("a", 0, 10, v -> x.listen(3, 3, v, 5, true) != -1);
        range("b", 0, 10, v -> x.listen(3, 3, 5, v, true) != -1);
    }

    private static void p35ListenAtItsEnds() {
        int[][] cases = {{1, 0, 10, 0, 0, 1}, {1, 0, 0, 10, 1, 1}, {1, 6, 10, 0, 1, 1}, {6, 6, 10, 0, 1, 1},
            {6, 2, 10, 0, 0, 1}, {6, 3, 10, 0, 1, 1}, {6, 0, 10, 10, 1, 1}, {6, 6, 0, 10, 1, 1}, {6, 6, 0, 0, 0, 1},
            {5, 2, 10, 5, 3, 4}, {5, 3, 10, 0, 1, 1}, {2, 1, 10, 9, 1, 1}, {1, 1, 9, 10, 1, 1}};
        for (int[] c : cases) {
            SecondLeft x = new SecondLeft();
            String call = "listen(" + c[0] + ", " + c[1] + ", " + c[2] + ", " + c[3] + ")";
            due(call, x.listen(c[0], c[1], c[2], c[3], false), c[4]);
            due(call + " by", x.listen(c[0], c[1], c[2], c[3], true), c[5]);
        }
        // 19 of 100 by both alike, six times: nothing to shorten
        due("19 to the sixth", new SecondLeft().listen(6, 6, 1, 0, false), 47045881L);
        due("100 to the sixth", new SecondLeft().listen(6, 6, 1, 0, true), 1000000000000L);
    }

    // ---- 36 to 41

    private static void p36TellInItsRanges() {
        due("without corners", new SecondLeft().tell(0, 0, 0, -1), -1);
        due("without a goal", row(2).tell(0, 1, 0, -1), -1);
        SecondLeft x = full();
        x.goal(8);
        range("corner of 16", 0, 15, v -> x.tell(v, v < 8 ? 1 : 3, 0, -1) > 0 && x.tell(v, v < 8 ? 1 : 3, 0, 0) > 0);
        range("slips", 0, 7, v -> x.tell(7, 1, v, -1) == 1);
        SecondLeft y = corners(5);
        for (int direction = 0; direction < 4; direction++) {
            y.street(4, direction, direction, false);
        }
        y.goal(4);
        for (int direction = 0; direction < 4; direction++) {
            int to = (direction + 2) % 4;
            due("facing", y.tell(direction, to, 0, 0), 301);
        }
        y.goal(0);
        range("facing", 0, 0, v -> y.tell(4, v, 0, -1) == 1);
        range("i", -1, 0, v -> y.tell(4, 0, 0, v) != -1);
        y.goal(-1);
        due("the goal is gone", y.tell(4, 0, 0, -1), -1);
    }

    private static void p36TellOfThreeTurnsAtMost() {
        // a row: 4, 8 and 12 streets are one, two and three turns
        SecondLeft x = row(14);
        int[] turns = {-1, 1, 1, 1, 1, 2, 2, 2, 2, 3, 3, 3, 3, -1};
        for (int goal = 0; goal < 14; goal++) {
            x.goal(goal);
            due("goal " + goal, x.tell(0, 1, 0, -1), turns[goal]);
            for (int i = 0; i < 5; i++) {
                due("goal " + goal + ", turn " + i, x.tell(0, 1, 0, i) != -1, i < turns[goal]);
            }
        }
        range("i of three", -1, 2, v -> {
            x.goal(12);
            return x.tell(0, 1, 0, v) != -1;
        });
    }

    private static void p36TellOfLikeOnesTheLowest() {
        // one church at a corner with a street to its left: left by number is lower than left by sight
        SecondLeft x = rowOf(0, 1, 0);
        x.street(1, 0, x.corner(1), false);
        x.goal(3);
        due("101 is lower than 111", x.tell(0, 1, 0, 0), 101);
        x.goal(1);
        due("301 is lower than 311", x.tell(0, 1, 0, 0), 301);
        SecondLeft y = row(8);
        y.goal(5);
        due("301 and 304 is lowest", y.tell(0, 1, 0, 0), 301);
        due("301 and 304 is lowest", y.tell(0, 1, 0, 1), 304);
        y.goal(6);
        due("302 and 304", y.tell(0, 1, 0, 0), 302);
        // the goal itself: around to it again
        SecondLeft z = full();
        z.goal(0);
        due("16 around: 4 turns of 4", z.tell(0, 1, 0, -1), -1);
        SecondLeft small = ring(3);
        small.goal(0);
        due("three around", small.tell(0, 1, 0, 0), 303);
    }

    private static void p36TellSafeAgainstEachSlip() {
        SecondLeft x = village();
        x.goal(4);
        due("as said", x.tell(0, 1, 0, 0), 101);
        // lanes left out: by the church; sights mixed as well: on, and then the first left twice
        int[] turns = {1, -1, 2, -1, 1, -1, 3, -1};
        for (int slips = 0; slips < 8; slips++) {
            due("slips " + slips, x.tell(0, 1, slips, -1), turns[slips]);
        }
        int[] both = {301, 101, 101};
        for (int i = 0; i < 3; i++) {
            due("slips 6, turn " + i, x.tell(0, 1, 6, i), both[i]);
        }
        SecondLeft on = row(3);
        on.goal(2);
        for (int slips = 0; slips < 8; slips++) {
            due("on is safe", on.tell(0, 1, slips, 0), 302);
        }
    }

    private static void p36TellFromTheFirstAndTheLastCorner() {
        for (int[] from : new int[][] {{0, 0}, {15, 3}}) {
            // six streets ahead there is sight 5; left of the first corner, right of the last but one there is one
            SecondLeft x = new SecondLeft();
            int facing = from[1];
            for (int i = 0; i < 16; i++) {
                x.corner(i == (from[0] + 6) % 16 ? 5 : 0);
            }
            for (int i = 0; i < 7; i++) {
                x.street((from[0] + i) % 16, facing, (from[0] + i + 1) % 16, false);
            }
            x.street((from[0] + 1) % 16, (facing + 3) % 4, (from[0] + 9) % 16, false);
            x.street((from[0] + 6) % 16, (facing + 1) % 4, (from[0] + 10) % 16, false);
            for (int slips = 0; slips < 8; slips += 2) {
                x.goal((from[0] + 6) % 16);
                due("the highest turn", x.tell(from[0], facing, slips, 0), 315);
                x.goal((from[0] + 9) % 16);
                due("the lowest turn", x.tell(from[0], facing, slips, 0), 101);
                x.goal((from[0] + 10) % 16);
                due("one turn", x.tell(from[0], facing, slips, -1), 1);
                due("the first right", x.tell(from[0], facing, slips, 0), 201);
                x.goal((from[0] + 7) % 16);
                due("two turns", x.tell(from[0], facing, slips, -1), 2);
                due("three", x.tell(from[0], facing, slips, 0), 303);
                due("and four", x.tell(from[0], facing, slips, 1), 304);
            }
        }
    }

    private static void p36TellFromTheLastCornerByTheFirst() {
        // right at 1, right at 0, then two on: lanes may be left out
        SecondLeft x = corners(16);
        x.street(15, 3, 1, false);
        x.street(1, 0, 0, false);
        x.street(0, 1, 2, false);
        x.street(2, 1, 3, true);
        x.goal(3);
        int[] due = {201, 201, 302};
        for (int slips = 0; slips < 8; slips += 2) {
            due("three turns", x.tell(15, 3, slips, -1), 3);
            for (int i = 0; i < 3; i++) {
                due("turn " + i, x.tell(15, 3, slips, i), due[i]);
            }
        }
    }

    private static void p36TellThroughOneCornerTwice() {
        // off in one direction, right and right again: back at the first corner, facing the other way
        for (int facing = 0; facing < 4; facing++) {
            SecondLeft x = corners(4);
            x.street(0, facing, 1, false);
            x.street(1, (facing + 1) % 4, 0, false);
            x.street(0, (facing + 2) % 4, 2, false);
            x.street(2, (facing + 2) % 4, 3, false);
            x.goal(3);
            int[] due = {201, 201, 302};
            for (int slips = 0; slips < 8; slips += 2) {
                due("three turns", x.tell(0, facing, slips, -1), 3);
                for (int i = 0; i < 3; i++) {
                    due("slips " + slips + ", turn " + i, x.tell(0, facing, slips, i), due[i]);
                }
            }
        }
    }

    /**
     * So many around; left of 0 goes a row, left of the corners from 1 on go so many lanes. Who counts them all
     * is around once where one who leaves out lanes is around as often as there are lefts.
     */
    private static SecondLeft laneRing(int around, int lanes, int off) {
        SecondLeft x = lasso(around, off);
        for (int i = 1; i <= lanes; i++) {
            x.street(i, 0, i + 4, true);
        }
        return x;
    }

    private static void p36TellOfFortyCornersAtMost() {
        // 13 three times and once more is 40, 14 three times is 42
        int[] around = {12, 13, 14, 15};
        for (int k : around) {
            SecondLeft x = laneRing(k, 2, 1);
            x.goal(k);
            due(k + " three times", x.tell(0, 1, 2, -1), k <= 13 ? 1 : 2);
            due("the third left", x.tell(0, 1, 2, 0) == 103, k <= 13);
            due("as said", x.tell(0, 1, 0, 0), 103);
        }
        // 9 four times and once more is 37, 10 four times is 40 and once more 41
        for (int k = 9; k <= 10; k++) {
            SecondLeft x = laneRing(k, 3, 1);
            x.goal(k);
            due(k + " four times", x.tell(0, 1, 2, -1), k == 9 ? 1 : 2);
            due("the fourth left", x.tell(0, 1, 2, 0) == 104, k == 9);
        }
        // 36 and four on is 40, and five are 41; 32 and five are 37
        SecondLeft four = laneRing(9, 3, 5);
        four.goal(12);
        due("four on", four.tell(0, 1, 2, -1), 2);
        due("the fourth left", four.tell(0, 1, 2, 0), 104);
        due("and four on", four.tell(0, 1, 2, 1), 304);
        four.goal(13);
        due("not five on", four.tell(0, 1, 2, -1), -1);
        SecondLeft five = laneRing(8, 3, 5);
        five.goal(12);
        due("five on", five.tell(0, 1, 2, -1), 3);
        int[] due = {104, 301, 304};
        for (int i = 0; i < 3; i++) {
            due("turn " + i, five.tell(0, 1, 2, i), due[i]);
        }
    }

    private static void p37WhereNeedsATellingThatCanBeGone() {
        never("without tellings", v -> told().where(v, false) != -1);
        range("telling of eight", 0, 7, v -> full().where(v, false) == 0);
        due("it can't be gone", told(304304).where(0, false), -1);
        due("nor its corners", told(304304).where(0, true), -1);
        due("never", full().where(0, true), 0);
    }

    private static void p37WhereFromTheTellersOnButForTheEnd() {
        SecondLeft x = combsOf(4);
        x.telling(0, 1, 303, 0);
        // 0, 1, 2 are gone on from, 3 is the end
        due("three times", x.where(0, false), 3);
        due("0, 1 and 2", x.where(0, true), 7);
        x.telling(0, 1, 301, 0);
        due("the teller's alone", x.where(1, true), 1);
        // 40 of them, 16 corners
        SecondLeft y = lasso(9, 6);
        y.teller(0, 0, 0, 0);
        y.telling(0, 1, 104304, 0);
        // at 0 there is the side street each time: at first, 3 times around, and when it is taken
        due("five times", y.where(0, false), 5);
        due("at 0", y.where(0, true), 1);
    }

    private static void p37WhereThereIsAnotherStreet() {
        for (int direction = 0; direction < 4; direction++) {
            for (int side = 1; side <= 2; side++) {
                // at the cross there is the other side; where a side alone goes on there is none
                SecondLeft x = saying(crossFrom(direction), 0, direction, 100 * side + 1);
                due("at the cross", x.where(0, true), 2);
                due("once", x.where(0, false), 1);
                SecondLeft y = corners(3);
                y.street(0, direction, 1, false);
                y.street(1, (direction + (side == 1 ? 3 : 1)) % 4, 2, false);
                saying(y, 0, direction, 100 * side + 1);
                due("nowhere", y.where(0, true), 0);
                due("never", y.where(0, false), 0);
            }
            // on, where there is one on a side, by a street or a lane
            for (int side = 0; side < 4; side++) {
                SecondLeft x = corners(4);
                x.street(0, direction, 1, false);
                x.street(1, direction, 2, false);
                boolean aside = (side - direction) % 2 != 0;
                due("a lane aside", x.street(1, side, 3, true), aside);
                saying(x, 0, direction, 302);
                due("past a lane", x.where(0, true), aside ? 2 : 0);
            }
        }
    }

    /** A row of so many corners, of which each has a corner above it; a teller at 0. */
    private static SecondLeft combsOf(int count) {
        SecondLeft x = row(count);
        for (int i = 0; i < count; i++) {
            x.street(i, 0, x.corner(0), false);
        }
        x.teller(0, 0, 0, 0);
        return x;
    }

    private static void p38MapInItsRanges() {
        never("without corners", v -> new SecondLeft().map(v, 1, 0) != -1);
        range("corner of 16", 0, 15, v -> full().map(v, 1, 0) >= 0);
        range("n", 1, 8, v -> full().map(0, v, 0) >= 0);
        int most = 1;
        for (int n = 1; n <= 8; n++) {
            int of = n;
            most *= 4;
            range("directions of " + n, 0, most - 1, v -> full().map(0, of, v) >= 0);
        }
    }

    private static void p38MapFitsByNoneToAll() {
        due("no street", row(1).map(0, 1, 0), 0);
        SecondLeft x = corners(5);
        for (int direction = 0; direction < 4; direction++) {
            x.street(4, direction, direction, false);
        }
        for (int direction = 0; direction < 4; direction++) {
            due("one street, any way", x.map(4, 1, direction), 15);
            // behind 3 comes 0
            int more = (4 - direction + 2) % 4;
            due("from 0 down alone", x.map(0, 1, direction), 1 << more);
        }
        // eight around: 3, 3, .. and 1, 1, ..
        due("65535", ring(5).map(0, 8, 65535), 5);
        due("21845", ring(5).map(0, 8, 21845), 5);
        // the first one's is the lowest: right, then seven more to the right and the last one up
        SecondLeft y = row(8);
        y.street(7, 0, y.corner(0), false);
        due("the last is the highest", y.map(0, 8, 0x1555), 1);
        due("turned back", y.map(0, 8, 0x0555 | 3 << 14), 0);
        due("one more", y.map(0, 8, 0xc000), 2);
    }

    private static void p39SignsNeedAGoal() {
        due("without corners", new SecondLeft().signs(), -1);
        due("without a goal", full().signs(), -1);
        for (int goal = 0; goal < 16; goal++) {
            SecondLeft x = full();
            x.goal(goal);
            due("in a ring all come", x.signs(), 0);
            x.goal(-1);
            due("without it again", x.signs(), -1);
        }
        SecondLeft alone = corners(16);
        alone.goal(15);
        due("nobody can come", alone.signs(), 0);
    }

    /** So many rings of three, one above the other by their first corners; the goal is above the last. */
    private static SecondLeft rings(int count) {
        SecondLeft x = corners(3 * count + 1);
        for (int r = 0; r < count; r++) {
            for (int i = 0; i < 3; i++) {
                x.street(3 * r + i, 1, 3 * r + (i + 1) % 3, false);
            }
            x.street(3 * r, 0, r + 1 < count ? 3 * r + 3 : 3 * count, false);
        }
        x.goal(3 * count);
        return x;
    }

    private static void p39SignsAreFourAtMost() {
        int set = 0;
        for (int count = 1; count <= 5; count++) {
            set |= 1 << 3 * (count - 1);
            due(count + " rings", rings(count).signs(), count <= 4 ? set : -1);
        }
        // with a corner that can't come at all
        SecondLeft x = rings(4);
        x.corner(0);
        due("four and one apart", x.signs(), set & 0xfff);
    }

    private static void p39SignsOfLikeOnesTheLowest() {
        // right of the goal's street: two corners that would do, the lower one has it
        SecondLeft x = corners(5);
        // a ring of four with streets all around, the goal aside of 2; a sign at 2 alone helps
        for (int i = 0; i < 4; i++) {
            x.street(i, 1, (i + 1) % 4, false);
        }
        x.street(2, 0, 4, false);
        x.goal(4);
        due("at the foot", x.signs(), 4);
        // two ways off the ring, to the goal by both: 1 or 2, and 1 is the lower
        x.street(1, 0, x.corner(0), false);
        x.street(5, 1, 4, false);
        due("the lower one", x.signs(), 2);
    }

    private static void p39SignsShowAnyDirection() {
        for (int off = 0; off < 4; off++) {
            for (int around = off + 1; around <= off + 3; around += 2) {
                SecondLeft x = corners(6);
                for (int i = 0; i < 5; i++) {
                    x.street(i, around % 4, (i + 1) % 5, false);
                }
                x.street(0, off, 5, false);
                x.goal(5);
                due("off in " + off + ", around in " + around % 4, x.signs(), 1);
            }
        }
    }

    private static void p39SignsForOneWayAroundAlone() {
        // a block around which the goal, left of 1, is on ahead one way, and never the other way
        SecondLeft x = corners(6);
        x.street(4, 0, 0, false);
        x.street(0, 0, 1, false);
        x.street(1, 1, 2, false);
        x.street(2, 2, 3, false);
        x.street(3, 3, 4, false);
        x.street(1, 3, 5, false);
        x.goal(5);
        due("at the goal's corner", x.signs(), 2);
    }

    private static void p39SignsForOneFacingAlone() {
        // who comes from 0 turns right at 1 and comes to the goal; who goes the other way around never does
        SecondLeft x = corners(7);
        x.street(0, 1, 1, false);
        x.street(1, 0, 2, false);
        x.street(2, 1, 3, false);
        x.street(3, 2, 4, false);
        x.street(4, 3, 5, false);
        x.street(5, 0, 1, false);
        x.street(2, 3, 6, false);
        x.goal(6);
        due("at the goal's corner", x.signs(), 4);
    }

    private static void p39SignsOfALongWalk() {
        // where each corner's streets in directions 0 and 1 lead to
        int[][] to = {{7, 7}, {2, 4}, {-1, 13}, {13, 8}, {-1, -1}, {1, 9}, {12, -1}, {14, 11},
            {11, 1}, {10, 6}, {5, 0}, {9, 3}, {-1, 10}, {8, 14}, {3, 5}, {0, -1}};
        int[][] all = new int[16][4];
        for (int[] row : all) {
            Arrays.fill(row, -1);
        }
        SecondLeft x = corners(16);
        for (int i = 0; i < 16; i++) {
            for (int d = 0; d < 2; d++) {
                if (to[i][d] != -1) {
                    due("a street", x.street(i, d, to[i][d], false), true);
                    all[i][d] = to[i][d];
                    all[to[i][d]][d + 2] = i;
                }
            }
        }
        x.goal(15);
        // one comes to the goal from anywhere, but may be at 51 corners until then, each with another facing
        int longest = 0;
        for (int state = 0; state < 64; state++) {
            longest = Math.max(longest, cornersUntil(all, state / 4, state % 4, 15));
        }
        due("the longest walk", longest, 51);
        due("no sign is needed", x.signs(), 0);
    }

    /** At how many corners one is, without signs, until one is at the goal; 1000 if never. */
    private static int cornersUntil(int[][] to, int corner, int facing, int goal) {
        int at = corner;
        int direction = facing;
        int count = 0;
        while (at != goal && count < 1000) {
            for (int more : new int[] {0, 1, 3, 2}) {
                if (to[at][(direction + more) % 4] != -1) {
                    direction = (direction + more) % 4;
                    break;
                }
            }
            at = to[at][direction];
            count++;
        }
        return count;
    }

    private static void p39SignsAtTheFarthestCorner() {
        // 0 and 1 lie around one another in direction 1; up from 0 to 1, and so on to the goal 15
        SecondLeft x = corners(16);
        x.street(0, 1, 1, false);
        x.street(1, 1, 0, false);
        for (int i = 0; i < 15; i++) {
            x.street(i, 0, i + 1, false);
        }
        x.goal(15);
        // of like ones the lowest direction: it shows up, not around
        due("fifteen streets away", x.signs(), 1);
    }

    private static void p40WhoseOfOneTwoFour() {
        never("without tellings", v -> told().whose(v, 0, 1, true) != -1);
        range("telling of eight", 0, 7, v -> {
            SecondLeft x = full();
            return x.whose(v, Math.max(0, x.leads(v, 0)), 1, true) == 1;
        });
        range("corner", 3, 10, v -> branches(5, 15).whose(0, v, 1, true) == 1);
        for (int slip = -1; slip <= 9; slip++) {
            due("slip " + slip, full().whose(0, 0, slip, true), slip == 1 || slip == 2 || slip == 4 ? 1 : -1);
        }
        due("the least slip", full().whose(0, 0, LEAST, true), -1);
        due("the greatest slip", full().whose(0, 0, GREATEST, true), -1);
    }

    private static void p40WhoseOfNoneAndOfAll() {
        SecondLeft x = branches(5, 15);
        for (int way = 0; way < 8; way++) {
            for (int bit = 0; bit < 3; bit++) {
                due("slip " + (1 << bit) + " of way " + way, x.whose(0, 3 + way, 1 << bit, false), way >> bit & 1);
                due("by 1", x.whose(0, 3 + way, 1 << bit, true), 1);
            }
        }
        for (int corner = 0; corner < 3; corner++) {
            due("no way leads there", x.whose(0, corner, 1, false), -1);
            due("no way leads there", x.whose(0, corner, 1, true), -1);
        }
        // all ways lead there: as often as the slip itself
        for (int slip = 0; slip <= 10; slip++) {
            SecondLeft y = row(2);
            y.teller(0, slip, 0, 0);
            y.telling(0, 1, 301, 0);
            int upper = y.whose(0, 1, 1, false);
            int lower = y.whose(0, 1, 1, true);
            due("so often", upper * 10, slip * lower);
            int ten = slip == 0 || slip == 10 ? 1 : slip == 5 ? 2 : slip % 2 == 0 ? 5 : 10;
            due("in lowest terms", lower, ten);
        }
    }

    private static void p41HeardByNoneToAll() {
        never("without corners", v -> new SecondLeft().heard(v) != -1);
        range("corner of 16", 0, 15, v -> full().heard(v) >= 0);
        due("without tellings", row(1).heard(0), 0);
        SecondLeft x = told(101, 101, 101, 101, 101, 101, 101, 101);
        due("all eight", x.heard(4), 255);
        due("none", x.heard(0), 0);
        // a thousandth is enough, nothing isn't
        due("a weight of 1", branches(1, 15).heard(10), 1);
        due("a weight of 0", branches(0, 15).heard(10), 0);
        due("a weight of 0", branches(10, 15).heard(3), 0);
        due("a weight of 1000", branches(10, 15).heard(10), 1);
    }

    private static void p41HeardByTheLawsOfNow() {
        SecondLeft x = ruled(cross(0), "swaps 10;");
        due("swapped always", x.heard(3), 1);
        due("never as said", x.heard(2), 0);
        x.by(-1);
        due("never swapped", x.heard(3), 0);
        due("always as said", x.heard(2), 1);
        due("no clash with itself", x.clash(-1), 0);
        due("none is wrong", x.wrong(1, true), 2);
    }

    // ---- 42 to 44

    private static void p42ImageOfNoneAndOfAll() {
        due("of a new one", new SecondLeft().image(), 0);
        SecondLeft x = full();
        due("of a full one", x.image(), 16);
        due("back to it", x.back(), 16);
        due("tellings", x.about(3), 8);
        due("texts", x.about(5), 4);
        due("it is full yet", x.corner(0), -1);
    }

    private static void p43BackAgainAndAgain() {
        SecondLeft x = row(2);
        x.image();
        for (int i = 0; i < 3; i++) {
            x.corner(1);
            x.goal(2);
            x.start(2, 2);
            due("three", x.about(0), 3);
            due("back", x.back(), 2);
            due("no goal", x.about(1), -1);
            due("nobody", x.walker(0), -1);
            due("no steps", x.about(7), 0);
        }
    }

    private static void p43BackToAllThirtySteps() {
        for (int ahead = 0; ahead < 31; ahead += 6) {
            // so many steps are taken ahead, so that the oldest of thirty lies elsewhere each time
            SecondLeft x = ring(5);
            x.start(0, 1);
            for (int i = 0; i < ahead; i++) {
                x.turn(2);
            }
            x.start(0, 1);
            x.walk(20);
            x.walk(9);
            x.image();
            for (int i = 0; i < 30; i++) {
                x.turn(1);
            }
            x.back();
            due("thirty", x.about(7), 30);
            for (int i = 28; i >= 0; i--) {
                x.undo();
                due("so many streets", x.walker(2), 10 * i);
                due("so far around", x.walker(0), i % 5);
                due("facing", x.walker(1), 1);
            }
        }
    }

    private static void p43BackLeavesTapeAndFault() {
        SecondLeft x = new SecondLeft();
        put(x, "goal 0;");
        x.image();
        put(x, "goal 0;");
        x.back();
        due("the tape is not in the image", x.about(8), 14);
        x.text();
        due("it was read", x.fault(0), 0);
        x.back();
        due("nor is it put back", x.about(8), 0);
        read(x, "goal");
        x.image();
        read(x, "goal 16;");
        x.back();
        due("the latest fault is not in the image", x.fault(0), 2);
        due("nor its place", x.fault(1), 5);
    }

    private static void p43BackToASmallerTown() {
        // what was told beyond the image is gone, and what is told anew begins anew
        SecondLeft x = row(2);
        x.teller(0, 1, 2, 3);
        x.image();
        x.corner(5);
        x.street(1, 1, 2, true);
        x.start(0, 1);
        x.teller(0, 9, 9, 9);
        x.ask(1);
        x.back();
        due("no third corner", x.ofCorner(2, 0), -2);
        due("no street to it", x.ofCorner(1, 2), -1);
        due("a third", x.corner(1), 2);
        due("without a street", x.ofCorner(2, 4), -1);
        due("a second teller", x.teller(1, 0, 0, 0), 1);
        due("who was never asked", x.ofTeller(1, 4), 0);
        due("a street again", x.street(1, 1, 2, false), true);
        due("no lane", x.ofCorner(1, 6), 0);
        due("nor back", x.ofCorner(2, 8), 0);
    }

    private static void p44AboutHasNineSides() {
        range("what", 0, 8, v -> new SecondLeft().about(v) != -2);
        SecondLeft x = full();
        x.goal(15);
        x.by(3);
        x.walk(20);
        x.walk(20);
        put(x, " ".repeat(300));
        int[] due = {16, 15, 6, 8, 29, 4, 3, 30, 300, -2};
        for (int i = 0; i < due.length; i++) {
            due("about(" + i + ")", x.about(i), due[i]);
        }
    }
}
