/** The words in capitals under "Terms" (part I): each sentence that names a boundary, from both of its sides. */
public final class TermsTest extends Towns {
    public static void main(String[] args) throws ReflectiveOperationException {
        runAll(TermsTest.class, 42);
        endOfTest("all terms hold at their boundaries");
    }

    // ---- what is told

    private static void cornersAreSixteen() {
        SecondLeft x = new SecondLeft();
        for (int i = 0; i < 16; i++) {
            due("corner " + i, x.corner(0), i);
        }
        due("the 17th", x.corner(0), -1);
        due("there are 16", x.about(0), 16);
        due("the last is one", x.ofCorner(15, 0), 0);
        due("there is no 16", x.ofCorner(16, 0), -2);
    }

    private static void sightsAreNoughtToFive() {
        range("sight", 0, 5, v -> new SecondLeft().corner(v) == 0);
        for (int sight = 0; sight <= 5; sight++) {
            SecondLeft x = new SecondLeft();
            x.corner(sight);
            due("its sight", x.ofCorner(0, 0), sight);
        }
        // nothing to be seen can't be gone to
        due("at sight 0", saying(row(2), 0, 1, 310).about(3), 0);
    }

    private static void behindDirectionThreeComesNought() {
        SecondLeft x = row(1);
        x.start(0, 3);
        due("right of 3", x.turn(2), 0);
        due("left of 0", x.turn(1), 3);
        due("back of 3", x.turn(3), 1);
        due("right of 1", x.turn(2), 2);
        due("back of 2", x.turn(3), 0);
        for (int direction = 0; direction < 4; direction++) {
            SecondLeft y = crossFrom(direction);
            y.teller(0, 0, 0, 0);
            y.telling(0, direction, 101, 0);
            y.telling(0, direction, 201, 0);
            due("left, facing " + direction, y.leads(0, 0), 2);
            due("right, facing " + direction, y.leads(1, 0), 3);
            y.start(0, direction);
            y.follow(0);
            due("left of " + direction, y.walker(1), (direction + 3) % 4);
        }
    }

    private static void streetsLeadToAnotherCorner() {
        for (int direction = 0; direction < 4; direction++) {
            SecondLeft x = corners(2);
            due("to itself", x.street(1, direction, 1, false), false);
            due("no street", x.ofCorner(1, 1 + direction), -1);
            due("nor back", x.ofCorner(1, 1 + (direction + 2) % 4), -1);
            due("to the other", x.street(1, direction, 0, false), true);
        }
    }

    private static void streetsGoBackInTheOppositeDirection() {
        for (int direction = 0; direction < 4; direction++) {
            SecondLeft x = corners(2);
            x.street(0, direction, 1, false);
            for (int d = 0; d < 4; d++) {
                due("from 0 in " + d, x.ofCorner(0, 1 + d), d == direction ? 1 : -1);
                due("from 1 in " + d, x.ofCorner(1, 1 + d), d == (direction + 2) % 4 ? 0 : -1);
            }
        }
    }

    private static void neitherHasAStreetYet() {
        for (int direction = 0; direction < 4; direction++) {
            int opposite = (direction + 2) % 4;
            SecondLeft x = corners(4);
            x.street(0, direction, 1, false);
            due("0 has one", x.street(0, direction, 2, false), false);
            due("2 has none yet", x.ofCorner(2, 1 + opposite), -1);
            due("1 has one back", x.street(2, direction, 1, false), false);
            due("2 has none yet", x.ofCorner(2, 1 + direction), -1);
            due("both have it", x.street(0, direction, 1, true), false);
            due("both have it from there", x.street(1, opposite, 0, true), false);
            due("it is no lane yet", x.ofCorner(0, 5 + direction), 0);
            due("1 may go on", x.street(1, direction, 2, false), true);
            due("0 may be come to from behind", x.street(3, direction, 0, false), true);
        }
        SecondLeft two = corners(2);
        for (int direction = 0; direction < 4; direction++) {
            due("two corners, direction " + direction, two.street(0, direction, 1, false), true);
        }
        for (int direction = 0; direction < 4; direction++) {
            due("all are taken", two.street(1, direction, 0, false), false);
        }
    }

    private static void lanesAreLanesAtBothEnds() {
        for (int direction = 0; direction < 4; direction++) {
            SecondLeft x = corners(3);
            x.street(0, direction, 1, true);
            x.street(1, direction, 2, false);
            int back = 5 + (direction + 2) % 4;
            due("a lane", x.ofCorner(0, 5 + direction), 1);
            due("a lane from there", x.ofCorner(1, back), 1);
            due("no lane", x.ofCorner(1, 5 + direction), 0);
            due("no lane from there", x.ofCorner(2, back), 0);
        }
    }

    private static void theGoalIsNoneAtFirst() {
        due("without corners", new SecondLeft().about(1), -1);
        due("with corners", row(3).about(1), -1);
    }

    private static void tellersAreSix() {
        SecondLeft x = row(1);
        for (int i = 0; i < 6; i++) {
            due("teller " + i, x.teller(0, 0, 0, 0), i);
        }
        due("the 7th", x.teller(0, 0, 0, 0), -1);
        due("there are 6", x.about(2), 6);
    }

    private static void slipsAreNoughtToTen() {
        range("swap", 0, 10, v -> row(1).teller(0, v, 0, 0) == 0);
        range("leave", 0, 10, v -> row(1).teller(0, 0, v, 0) == 0);
        range("mix", 0, 10, v -> row(1).teller(0, 0, 0, v) == 0);
        range("all", 0, 10, v -> row(1).teller(0, v, v, v) == 0);
    }

    private static void tellingsAreEight() {
        SecondLeft x = row(1);
        x.teller(0, 0, 0, 0);
        for (int i = 0; i < 8; i++) {
            due("telling " + i, x.telling(0, 0, 101, 0), i);
        }
        due("the 9th", x.telling(0, 0, 101, 0), -1);
        due("there are 8", x.about(3), 8);
    }

    private static void tellingsHaveOneToSixTurns() {
        int[][] told = {{101, 0}, {101102, 0}, {101102103, 0}, {101102103, 104}, {101102103, 104111},
            {101102103, 104111112}};
        int[] turns = {101, 102, 103, 104, 111, 112};
        for (int n = 1; n <= 6; n++) {
            SecondLeft x = row(1);
            x.teller(0, 0, 0, 0);
            due(n + " turns", x.telling(0, 0, told[n - 1][0], told[n - 1][1]), 0);
            due("how many", x.ofTelling(0, 2), n);
            for (int i = 0; i < 6; i++) {
                due("turn " + i + " of " + n, x.ofTelling(0, 10 + i), i < n ? turns[i] : -1);
            }
        }
        SecondLeft x = row(1);
        x.teller(0, 0, 0, 0);
        due("no turn", x.telling(0, 0, 0, 0), -1);
        due("four in the first", x.telling(0, 0, 1101101101, 0), -1);
        due("four in the others", x.telling(0, 0, 101101101, 1101101101), -1);
        due("there are none", x.about(3), 0);
    }

    private static void turnsAreTwentySeven() {
        int found = 0;
        for (int turn = 0; turn < 1000; turn++) {
            int what = turn / 100;
            int how = turn / 10 % 10;
            int n = turn % 10;
            boolean is = what >= 1 && what <= 3 && (how == 0 && n >= 1 && n <= 4 || how == 1 && n >= 1 && n <= 5);
            found += is ? 1 : 0;
            due("turn " + turn, saying(row(1), 0, 0, turn).about(3), is ? 1 : 0);
            due("101 and " + turn, saying(row(1), 0, 0, 101000 + turn).about(3), is ? 1 : 0);
            due(turn + " and 101", saying(row(1), 0, 0, 1000 * turn + 101).about(3), is || turn == 0 ? 1 : 0);
            SecondLeft x = row(1);
            x.teller(0, 0, 0, 0);
            due("101101101, " + turn, x.telling(0, 0, 101101101, turn), is || turn == 0 ? 0 : -1);
        }
        due("all of them", found, 27);
    }

    // ---- how a telling is gone

    /** Where a telling leads, as said, in a town where its teller stands at 0. */
    private static int ledTo(SecondLeft x, int facing, int turns) {
        return saying(x, 0, facing, turns).leads(0, 0);
    }

    private static void onceAtLeast() {
        // the teller stands at a church, and at a corner with a street on each side
        due("the other church", ledTo(rowOf(1, 0, 1), 1, 311), 2);
        due("no other church", ledTo(rowOf(1, 0, 0), 1, 311), -1);
        SecondLeft x = corners(7);
        x.street(0, 1, 1, false);
        x.street(0, 0, 2, false);
        x.street(0, 2, 3, false);
        x.street(1, 0, 4, false);
        x.street(1, 2, 5, false);
        x.teller(0, 0, 0, 0);
        x.telling(0, 1, 101, 0);
        x.telling(0, 1, 201, 0);
        x.telling(0, 1, 102, 0);
        due("the next one's left", x.leads(0, 0), 4);
        due("the next one's right", x.leads(1, 0), 5);
        due("its own doesn't count", x.leads(2, 0), -1);
    }

    private static void atTheFirstThatHasTheSight() {
        for (int sight = 1; sight <= 5; sight++) {
            due("sight " + sight, ledTo(rowOf(0, 0, sight, sight), 1, 310 + sight), 2);
            int other = sight % 5 + 1;
            due("past sight " + other, ledTo(rowOf(0, other, sight), 1, 310 + sight), 2);
            due("no sight " + sight, ledTo(rowOf(0, other, 0), 1, 310 + sight), -1);
        }
        // nothing is left of the first church, but of the second
        SecondLeft x = rowOf(0, 1, 1, 0);
        x.corner(0);
        x.street(2, 0, 4, false);
        due("not at the second", ledTo(x, 1, 111), -1);
    }

    private static void onToTheNth() {
        for (int n = 1; n <= 4; n++) {
            due("on " + n, ledTo(row(6), 1, 300 + n), n);
            due("on " + n + ", just so far", ledTo(row(n + 1), 1, 300 + n), n);
            due("on " + n + ", not so far", ledTo(row(n), 1, 300 + n), -1);
        }
    }

    /** A row of six; up of 1, 2, 4, 5 there are 6, 7, 8, 9 (to 7 leads a lane), down of 3 there is 10. */
    private static SecondLeft combs() {
        SecondLeft x = row(6);
        for (int i = 0; i < 5; i++) {
            x.corner(0);
        }
        x.street(1, 0, 6, false);
        x.street(2, 0, 7, true);
        x.street(4, 0, 8, false);
        x.street(5, 0, 9, false);
        x.street(3, 2, 10, false);
        x.teller(0, 0, 0, 0);
        return x;
    }

    private static void leftAtTheNth() {
        int[] said = {6, 7, 8, 9};
        int[] leftOut = {6, 8, 9, -1};
        for (int n = 1; n <= 4; n++) {
            SecondLeft x = combs();
            x.telling(0, 1, 100 + n, 0);
            due("left " + n, x.leads(0, 0), said[n - 1]);
            due("left " + n + ", lanes left out", x.leads(0, 2), leftOut[n - 1]);
            due("swapped", x.leads(0, 1), n == 1 ? 10 : -1);
        }
    }

    private static void rightAtTheNth() {
        for (int n = 1; n <= 4; n++) {
            SecondLeft x = combs();
            x.telling(0, 1, 200 + n, 0);
            due("right " + n, x.leads(0, 0), n == 1 ? 10 : -1);
            due("swapped", x.leads(0, 1), 5 + n);
        }
    }

    private static void thereMustBeAStreetThatCounts() {
        // a church with nothing, with a lane, with a street to its left
        due("nothing", ledTo(rowOf(0, 1, 0), 1, 111), -1);
        for (int lane = 0; lane < 2; lane++) {
            SecondLeft x = rowOf(0, 1, 0);
            x.street(1, 0, x.corner(0), lane == 1);
            saying(x, 0, 1, 111);
            due("it counts", x.leads(0, 0), 3);
            due("lanes left out", x.leads(0, 2), lane == 1 ? -1 : 3);
            due("nothing to its right", x.leads(0, 1), -1);
        }
    }

    private static void onceMoreBehindTheLastTurn() {
        SecondLeft x = village();
        x.teller(0, 0, 0, 0);
        x.telling(0, 1, 101, 0);
        x.telling(0, 1, 301, 0);
        x.telling(0, 1, 111, 0);
        x.telling(0, 1, 311, 0);
        x.telling(0, 1, 101301, 0);
        due("left, and on", x.leads(0, 0), 4);
        due("on, and no more", x.leads(1, 0), 1);
        due("left at the church, and on", x.leads(2, 0), 5);
        due("on to the church, and no more", x.leads(3, 0), 2);
        due("left, then on: once", x.leads(4, 0), 4);
    }

    private static void aStreetAheadIsMissing() {
        due("at once", ledTo(row(3), 0, 301), -1);
        due("at once, left", ledTo(row(3), 3, 101), -1);
        due("behind the last", ledTo(row(3), 1, 303), -1);
        due("in the second turn", ledTo(row(3), 1, 302301), -1);
        due("just so far", ledTo(row(3), 1, 301301), 2);
    }

    private static void aLaneAheadIsAStreetAlways() {
        SecondLeft x = corners(4);
        for (int i = 0; i < 3; i++) {
            x.street(i, 1, i + 1, true);
        }
        x.street(3, 0, x.corner(0), false);
        x.teller(0, 0, 0, 0);
        x.telling(0, 1, 303, 0);
        x.telling(0, 1, 101, 0);
        due("as said", x.leads(0, 0), 3);
        due("lanes left out", x.leads(0, 2), 3);
        due("left behind lanes", x.leads(1, 2), 4);
        // once more behind the last turn there may not be a lane: it must count to be faced
        SecondLeft y = row(2);
        y.street(1, 0, y.corner(0), false);
        y.street(2, 0, y.corner(0), true);
        y.teller(0, 0, 0, 0);
        y.telling(0, 1, 101302, 0);
        due("on into a lane", y.leads(0, 2), 3);
    }

    // Nine around, four times: 36 corners; then off in the row.
    private static void fortyCornersByOn() {
        SecondLeft x = lasso(9, 6);
        x.teller(0, 0, 0, 0);
        x.telling(0, 1, 104303, 0);
        x.telling(0, 1, 104304, 0);
        x.telling(0, 1, 104304301, 0);
        x.telling(0, 1, 104303302, 0);
        due("39", x.leads(0, 0), 11);
        due("40", x.leads(1, 0), 12);
        due("41", x.leads(2, 0), -1);
        due("41 within a turn", x.leads(3, 0), -1);
    }

    private static void fortyCornersBySight() {
        for (int at = 3; at <= 5; at++) {
            SecondLeft x = new SecondLeft();
            for (int i = 0; i < 15; i++) {
                x.corner(i == 8 + at ? 4 : 0);
            }
            for (int i = 0; i < 9; i++) {
                x.street(i, 1, (i + 1) % 9, false);
            }
            for (int i = 0; i < 6; i++) {
                x.street(i == 0 ? 0 : 8 + i, 0, 9 + i, false);
            }
            saying(x, 0, 1, 104314);
            due("the " + (36 + at) + "th", x.leads(0, 0), at <= 4 ? 8 + at : -1);
        }
        // a sight that isn't there, around and around
        due("never", saying(ring(9), 0, 1, 315).leads(0, 0), -1);
    }

    private static void fortyCornersAndOnceMore() {
        // left of the third, the fourth of the row: 39 and once more, 40 and once more
        for (int at = 3; at <= 4; at++) {
            SecondLeft x = lasso(9, 5);
            x.street(8 + at, 3, x.corner(0), false);
            saying(x, 0, 1, 104101);
            due("left at the " + (36 + at) + "th", x.leads(0, 0), at == 3 ? 14 : -1);
            due("without going on", x.safeSoFar(0, 2, false), 1);
        }
        due("13 three times, and once more", saying(ring(13), 0, 1, 103).leads(0, 0), 13);
        due("10 four times, and once more", saying(ring(10), 0, 1, 104).leads(0, 0), -1);
        due("11 four times", saying(ring(11), 0, 1, 104).leads(0, 0), -1);
        due("without going on: 40", saying(ring(10), 0, 1, 104).safeSoFar(0, 1, false), 1);
        due("without going on: 44", saying(ring(11), 0, 1, 104).safeSoFar(0, 1, false), 0);
    }

    private static void fortyCornersFollowed() {
        int[] turns = {104303, 104304, 104304301, 104303303};
        int[] all = {1, 1, 0, 0};
        int[] at = {11, 12, 12, 12};
        int[] seconds = {390, 400, 400, 400};
        for (int i = 0; i < 4; i++) {
            SecondLeft x = saying(lasso(9, 6), 5, 3, turns[i]);
            x.start(0, 1);
            due("follow " + turns[i], x.follow(0), all[i]);
            due("corner", x.walker(0), at[i]);
            due("facing", x.walker(1), 0);
            due("seconds", x.walker(2), seconds[i]);
        }
    }

    private static void fortyCornersOfTheWholeTelling() {
        // 5 around in six turns of four each is 24 on, but 4 lefts around take 4 times as many
        SecondLeft x = ring(15);
        x.teller(0, 0, 0, 0);
        x.telling(0, 1, 304304304, 304304304);
        due("24", x.leads(0, 0), 24 % 15);
        // in a ring of two 104 takes 8; five times that is 40, each from where the last one ended
        SecondLeft y = corners(2);
        y.street(0, 1, 1, false);
        y.street(1, 1, 0, false);
        y.street(0, 0, 1, false);
        y.street(1, 0, 0, false);
        y.teller(0, 0, 0, 0);
        y.telling(0, 1, 304304304, 304304304);
        due("24 by twos", y.leads(0, 0), 0);
        // each corner has each side: a turn of four takes four
        y.telling(0, 1, 104104104, 104104104);
        due("24 and once more", y.leads(1, 0), 1);
    }

    // ---- what is meant

    private static void noSlipAndAlwaysASlip() {
        due("never swapped", cross(0).likely(0, 2), 1000);
        due("always swapped", cross(10).likely(0, 3), 1000);
        due("never as said", cross(10).likely(0, 2), 0);
        int[] leave = {0, 10};
        int[] to = {4, 5};
        for (int i = 0; i < 2; i++) {
            SecondLeft x = village();
            x.teller(0, 0, leave[i], 0);
            x.telling(0, 1, 101, 0);
            due("leave " + leave[i], x.likely(0, to[i]), 1000);
            due("leave " + leave[i], x.likely(0, to[1 - i]), 0);
        }
        int[] mix = {0, 10};
        int[] seen = {2, 3};
        for (int i = 0; i < 2; i++) {
            SecondLeft x = village();
            x.teller(0, 0, 0, mix[i]);
            x.telling(0, 1, 311, 0);
            due("mix " + mix[i], x.likely(0, seen[i]), 1000);
            due("mix " + mix[i], x.likely(0, seen[1 - i]), 0);
        }
    }

    private static void onIsNotSwapped() {
        SecondLeft x = saying(row(3), 0, 1, 302);
        due("as said", x.leads(0, 0), 2);
        due("swapped", x.leads(0, 1), 2);
    }

    private static void onlySightsOneAndTwoAreMixed() {
        for (int sight = 1; sight <= 5; sight++) {
            int mixed = sight == 1 ? 2 : sight == 2 ? 1 : sight;
            SecondLeft x = saying(rowOf(0, mixed, 0), 0, 1, 310 + sight);
            due("mixed " + sight, x.leads(0, 4), 1);
            due("as said " + sight, x.leads(0, 0), mixed == sight ? 1 : -1);
            // by number nothing is mixed
            due("on " + sight, sight > 4 || saying(row(6), 0, 1, 300 + sight).leads(0, 4) == sight, true);
        }
    }

    private static void theEightWeights() {
        for (int slip = 0; slip <= 10; slip++) {
            SecondLeft x = branches(slip, 15);
            int sum = 0;
            for (int way = 0; way < 8; way++) {
                int weight = 1;
                for (int bit = 0; bit < 3; bit++) {
                    weight *= (way >> bit & 1) == 1 ? slip : 10 - slip;
                }
                due("way " + way + " leads to", x.leads(0, way), 3 + way);
                due("weight of way " + way + " by " + slip, x.likely(0, 3 + way), weight);
                sum += weight;
            }
            due("together", x.likely(0, -1), sum);
            due("out of 1000", sum, 1000);
        }
    }

    // ---- the walker

    private static void nobodyAtFirst() {
        SecondLeft x = told(101);
        for (int what = 0; what <= 2; what++) {
            due("walker(" + what + ")", x.walker(what), -1);
        }
        due("walk", x.walk(1), -1);
        due("turn", x.turn(1), -1);
        due("ask", x.ask(0), -1);
        due("follow", x.follow(0), -1);
        due("see", x.see(1, 0), -1);
        due("orAsk", x.orAsk(1), -1);
        due("undo", x.undo(), -1);
        due("no step", x.about(7), 0);
    }

    private static void startedAnew() {
        SecondLeft x = village();
        x.start(0, 1);
        x.walk(3);
        due("seconds", x.walker(2), 30);
        x.start(3, 3);
        due("seconds 0", x.walker(2), 0);
        due("facing", x.walker(1), 3);
        x.walk(1);
        x.start(2, 0);
        due("seconds 0 where one is", x.walker(2), 0);
    }

    private static void askedFromNought() {
        SecondLeft x = row(1);
        for (int i = 0; i < 6; i++) {
            x.teller(0, 0, 0, 0);
            due("never", x.ofTeller(i, 4), 0);
        }
        x.start(0, 0);
        for (int n = 1; n <= 40; n++) {
            due("so often", x.ask(5), n);
        }
        for (int i = 0; i < 5; i++) {
            due("not the others", x.ofTeller(i, 4), 0);
        }
        x.start(0, 0);
        due("kept over a start", x.ofTeller(5, 4), 40);
    }

    private static void followedAsFarAsItCanBeGone() {
        // from where one is, not from the teller; nothing of it can be gone: a step all the same
        SecondLeft x = saying(village(), 5, 0, 101302);
        x.start(0, 0);
        due("nothing", x.follow(0), 0);
        due("where one was", x.walker(0), 0);
        due("facing", x.walker(1), 0);
        due("no seconds", x.walker(2), 0);
        due("a step", x.about(7), 2);
        x.turn(2);
        due("left, and on to 4; up of it is nothing", x.follow(0), 0);
        due("at 4", x.walker(0), 4);
        due("facing 0", x.walker(1), 0);
        due("20 seconds", x.walker(2), 20);
        // a sight without a street on that side: there, but not turned
        SecondLeft y = saying(village(), 5, 0, 212);
        y.start(0, 1);
        due("nothing is right of the chapel", y.follow(0), 0);
        due("at the chapel", y.walker(0), 3);
        due("facing 1", y.walker(1), 1);
        due("30 seconds", y.walker(2), 30);
    }

    // ---- steps

    private static void eachIsAStep() {
        SecondLeft x = village();
        x.teller(3, 0, 0, 0);
        x.telling(0, 1, 301, 0);
        x.start(0, 1);
        due("started", x.about(7), 1);
        x.walk(1);
        due("walked", x.about(7), 2);
        x.walk(2);
        due("walked each", x.about(7), 4);
        x.ask(0);
        due("asked", x.about(7), 5);
        x.turn(3);
        due("turned", x.about(7), 6);
        x.follow(0);
        due("followed", x.about(7), 7);
        x.day(0, 30);
        due("a day", x.about(7), 8);
        read(x, "corner 0;start 0 facing 1;walk 3;turn back;turn back;ask 0;follow 0;goal 0;");
        due("played", x.played(0), -1);
        due("each of seven", x.about(7), 16);
    }

    private static void noneOfTheseIsAStep() {
        SecondLeft x = village();
        x.start(0, 1);
        x.corner(0);
        x.street(0, 0, 6, false);
        x.goal(3);
        x.teller(0, 0, 0, 0);
        x.telling(0, 1, 101, 0);
        read(x, "corner 0;goal 0;pace 7;");
        x.by(0);
        x.played(0);
        x.leads(0, 0);
        x.image();
        due("one step yet", x.about(7), 1);
        due("it is the start", x.undo(), 0);
        due("nobody", x.walker(0), -1);
        due("the corners stay", x.about(0), 8);
        due("the goal stays", x.about(1), 0);
    }

    private static void thirtySteps() {
        SecondLeft x = row(1);
        x.start(0, 0);
        for (int i = 0; i < 29; i++) {
            x.turn(2);
        }
        due("thirty", x.about(7), 30);
        for (int i = 29; i >= 0; i--) {
            due("undo", x.undo(), i);
            due("facing", x.walker(1), i == 0 ? -1 : (i - 1) % 4);
        }
        due("none is left", x.undo(), -1);
        due("nobody", x.walker(0), -1);
    }

    private static void theThirtyFirstStep() {
        SecondLeft x = row(1);
        x.start(0, 0);
        for (int i = 0; i < 30; i++) {
            x.turn(2);
        }
        due("thirty of them", x.about(7), 30);
        for (int i = 29; i >= 0; i--) {
            due("undo", x.undo(), i);
        }
        due("none is left", x.undo(), -1);
        due("the start can't be taken back", x.walker(0), 0);
        due("facing as at the start", x.walker(1), 0);
        // a walk of 20 and another: the oldest of 41 give way
        SecondLeft y = ring(7);
        y.start(0, 1);
        y.walk(20);
        due("21", y.about(7), 21);
        y.walk(20);
        due("30", y.about(7), 30);
        for (int i = 0; i < 30; i++) {
            y.undo();
        }
        due("ten of forty stay", y.walker(2), 100);
        due("no more", y.undo(), -1);
        due("nothing is done", y.walker(2), 100);
    }

    private static void stepsAroundAndAround() {
        SecondLeft x = row(1);
        x.start(0, 0);
        for (int i = 0; i < 44; i++) {
            x.turn(2);
        }
        for (int i = 29; i >= 20; i--) {
            due("undo", x.undo(), i);
        }
        due("34 turns", x.walker(1), 34 % 4);
        for (int i = 0; i < 10; i++) {
            x.turn(1);
        }
        due("thirty again", x.about(7), 30);
        for (int i = 29; i >= 20; i--) {
            due("undo", x.undo(), i);
            due("turned left so often", x.walker(1), (34 + 3 * (i - 20)) % 4);
        }
        for (int i = 19; i >= 0; i--) {
            due("undo", x.undo(), i);
            due("turned right so often", x.walker(1), (14 + i) % 4);
        }
        due("none is left", x.undo(), -1);
    }

    private static void xAtFirst() {
        SecondLeft x = row(3);
        due("29", x.about(4), 29);
        x.start(0, 1);
        x.walk(2);
        due("29 yet", x.about(4), 29);
        x.day(0, 1);
        due("29 * 229 + 127, and anew", x.about(4), (6768 * 229 + 127) % 30181);
        x.undo();
        due("29 again", x.about(4), 29);
    }

    private static void allIsAsAheadOfTheStep() {
        SecondLeft x = village();
        x.teller(0, 0, 0, 0);
        x.teller(0, 0, 0, 0);
        x.start(0, 0);
        x.ask(1);
        x.day(7, 30);
        int x1 = x.about(4);
        x.day(8, 30);
        x.start(0, 2);
        x.ask(0);
        int asked = x.ofTeller(0, 4);
        x.undo();
        due("asked once less", x.ofTeller(0, 4), asked - 1);
        due("no seconds", x.walker(2), 0);
        x.undo();
        x.undo();
        due("X of the first day", x.about(4), x1);
        x.undo();
        due("X", x.about(4), 29);
        due("corner", x.walker(0), 0);
        due("facing", x.walker(1), 0);
        due("seconds", x.walker(2), 20);
        due("asked", x.ofTeller(1, 4), 1);
        due("the other", x.ofTeller(0, 4), 0);
        x.undo();
        due("never asked", x.ofTeller(1, 4), 0);
    }
}
