import java.util.ArrayList;
import java.util.List;
import java.util.Set;

/** Part II, TEXTS: each sentence that names a boundary, from both of its sides. */
public final class TextsTest extends Towns {
    private static final List<String> LAWS = List.of("swaps", "leaves", "mixes", "pace", "asks");
    private static final List<String> NAMES = List.of("who", "here", "asked", "turns", "face", "told", "narrow", "sight", "way");
    private static final String SIX = "telling 0 facing 0:1 on,1 on,1 on,1 on,1 on,1 on";

    public static void main(String[] args) throws ReflectiveOperationException {
        runAll(TextsTest.class, 40);
        endOfTest("all texts are read as they should be at their boundaries");
    }

    // ---- texts, bytes and tokens

    private static void textsAreFour() {
        SecondLeft x = new SecondLeft();
        for (int i = 0; i < 4; i++) {
            due("text " + i, read(x, "goal " + i + ";"), i);
        }
        due("the 5th", read(x, "goal 4;"), -1);
        due("there are 4", x.about(5), 4);
        due("the tape stays", x.about(8), 7);
        due("nor one with a fault", read(x, "goal"), -1);
        due("the tape stays", x.about(8), 4);
        due("it was not read", x.fault(0), 0);
    }

    private static void textsAgainAndAgain() {
        // what earlier texts had takes no room from later ones
        String long1 = "pace " + "1+".repeat(100) + "1;";
        SecondLeft x = row(2);
        x.image();
        for (int i = 0; i < 12; i++) {
            due("a long one", read(x, long1), 0);
            x.by(0);
            due("99 at most", x.far(0, 1), 99);
            x.back();
        }
        due("another", read(x, "pace 2*3+5;"), 0);
        x.by(0);
        due("its pace", x.far(0, 1), 11);
        due("and another", read(x, "pace 2*(3+4);asks 3;"), 1);
        x.by(1);
        due("its pace", x.far(0, 1), 14);
        x.by(0);
        due("the first has its own yet", x.far(0, 1), 11);
    }

    private static void bytesAreThreeHundred() {
        fine("goal 0;" + " ".repeat(293));
        fine(" ".repeat(293) + "goal 0;");
        fine("pace " + "1+".repeat(146) + "1 ;");
        faultOf("pace " + "1+".repeat(147) + "1", 1, 300);
        faultOf(" ".repeat(300 - 6) + "goal 0", 1, 300);
        SecondLeft x = new SecondLeft();
        due("all of them", read(x, " ".repeat(293) + "goal 0;"), 0);
        put(x, " ".repeat(301));
        due("no more than 300", x.about(8), 300);
    }

    private static void noByteAtAll() {
        SecondLeft x = new SecondLeft();
        due("empty", x.text(), 0);
        due("no fault", x.fault(0), 0);
        due("no place", x.fault(1), -1);
        due("all is done", x.played(0), -1);
        fine(" ");
        fine("\n");
        fine(" \n".repeat(150));
    }

    /** What stands between "goal" and "0;" for each of 256 bytes. */
    private static void blanksAreTwo() {
        for (int b = 0; b < 256; b++) {
            String text = "goal" + (char) b + "0;";
            boolean letter = b >= 'a' && b <= 'z' || b >= 'A' && b <= 'Z';
            if (b == 32 || b == 10 || b == '0' || b == '1') {
                fine(text);
            } else if (b >= '2' && b <= '9') {
                faultOf(text, 2, 4);
            } else {
                faultOf(text, 1, letter ? 0 : 4);
            }
        }
    }

    /** Each byte where a text begins: no sign, no digit, no single letter can stand there. */
    private static void noByteBeginsAClause() {
        for (int b = 0; b < 256; b++) {
            String text = "goal 0; " + (char) b;
            if (b == 32 || b == 10) {
                fine(text);
            } else {
                faultOf(text, 1, 8);
            }
        }
    }

    private static void lettersAreOneToken() {
        for (char sign : new char[] {'a', 'z', 'A', 'Z'}) {
            faultOf("goal" + sign + " 0;", 1, 0);
            faultOf(sign + "goal 0;", 1, 0);
        }
        faultOf("GOAL 0;", 1, 0);
        faultOf("goaL 0;", 1, 0);
        faultOf("goa 0;", 1, 0);
        faultOf("go al 0;", 1, 0);
        fine("goal0;");
        fine("street0 0to 0;");
        faultOf("street 0 0 to0 0;", 1, 15);
    }

    private static void digitsAreOneToken() {
        fine("goal 15;");
        faultOf("goal 1 5;", 1, 7);
        fine("walk 20;");
        faultOf("walk 2 0;", 1, 7);
        fine("goal 015;");
        fine("goal 000000000000000;");
    }

    private static void signsOfNoUseAreTokensToo() {
        for (String sign : List.of("<=", ">=", "<", ">", "=", "#")) {
            faultOf(sign, 1, 0);
            faultOf("pace 1" + sign + "2;", 1, 6);
            faultOf("goal " + sign + "0;", 1, 5);
            faultOf("pace " + sign + "1;", 1, 5);
        }
        for (String sign : List.of("+", "-", "*", "/", "(", ")", ",", ":", ";")) {
            faultOf(sign, 1, 0);
            faultOf("goal 0" + (sign.equals(";") ? ";;" : sign) + "0;", 1, sign.equals(";") ? 7 : 6);
        }
    }

    private static void numbersAreNoughtTo9999() {
        fine("pace 0;");
        fine("pace 9999;");
        fine("pace 00009999;");
        faultOf("pace 10000;", 2, 5);
        faultOf("pace 010000;", 2, 5);
        faultOf("pace 99999;", 2, 5);
        // more than an int, a long, and all of the tape
        faultOf("pace 4294967296;", 2, 5);
        faultOf("pace 18446744073709551616;", 2, 5);
        faultOf("pace " + "9".repeat(294) + ";", 2, 5);
        fine("pace " + "0".repeat(294) + ";");
        faultOf("pace 1+10000;", 2, 7);
        faultOf("pace (10000;", 2, 6);
    }

    // ---- clauses

    private static void clausesAreTwentyFour() {
        fine("goal 0;".repeat(23));
        fine("goal 0;".repeat(24));
        faultOf("goal 0;".repeat(25), 6, 168);
        faultOf("goal 0;".repeat(24) + " \n goal 0;", 6, 171);
        faultOf("goal 0;".repeat(24) + "pace", 6, 168);
        // of one token the least
        faultOf("goal 0;".repeat(24) + "to", 1, 168);
        faultOf("goal 0;".repeat(24) + "0", 1, 168);
        faultOf("goal 0;".repeat(24) + ";", 1, 168);
        faultOf("pace 1;" + "goal 0;".repeat(23) + "pace 1;", 4, 168);
        faultOf("pace 1;" + "goal 0;".repeat(23) + "asks 1;", 6, 168);
        fine("pace 1;" + "goal 0;".repeat(23));
        fine("goal 0;".repeat(24) + " ".repeat(132));
    }

    private static void eachLawStandsOnce() {
        StringBuilder all = new StringBuilder();
        for (String law : LAWS) {
            fine(law + " 1;");
            faultOf(law + " 1;" + law + " 1;", 4, law.length() + 3);
            faultOf(law + " 1;goal 0; " + law, 4, law.length() + 11);
            all.append(law).append(" 1;");
        }
        fine(all.toString());
        for (String law : LAWS) {
            faultOf(all + law + " 1;", 4, all.length());
        }
        // deeds may stand again and again
        fine("corner 0;corner 0;goal 0;goal 0;walk 1;walk 1;");
    }

    /** Every number of a clause: those told, the first that aren't, and what is above 9999. */
    private static void numbersOfClauses() {
        number("corner #;", 0, 5);
        for (String word : List.of("street", "lane")) {
            number(word + " # 0 to 0;", 0, 15);
            number(word + " 0 # to 0;", 0, 3);
            number(word + " 0 0 to #;", 0, 15);
        }
        number("goal #;", 0, 15);
        number("teller #;", 0, 15);
        number("telling # facing 0:1 on;", 0, 5);
        number("telling 0 facing #:1 on;", 0, 3);
        for (String side : List.of("left", "right", "on")) {
            number("telling 0 facing 0:# " + side + ";", 1, 4);
            number("telling 0 facing 0:at # " + side + ";", 1, 5);
            number("telling 0 facing 0:1 on,# " + side + ";", 1, 4);
            number("telling 0 facing 0:1 on,at # " + side + ";", 1, 5);
            number("telling 0 facing 0:1 on,1 on,1 on,1 on,1 on,# " + side + ";", 1, 4);
            number("telling 0 facing 0:1 on,1 on,1 on,1 on,1 on,at # " + side + ";", 1, 5);
        }
        number("start # facing 0;", 0, 15);
        number("start 0 facing #;", 0, 3);
        number("walk #;", 1, 20);
        number("ask #;", 0, 5);
        number("follow #;", 0, 7);
        for (String law : LAWS) {
            number(law + " #;", 0, 9999);
            number(law + " 1+2*(#);", 0, 9999);
        }
    }

    private static void number(String text, int low, int high) {
        int place = text.indexOf('#');
        for (int v = low; v <= high; v += high > 100 ? high : 1) {
            fine(text.replace("#", "" + v));
        }
        for (int v : new int[] {low - 1, high + 1, 9999, 10000}) {
            if (v >= 0 && (v < low || v > high)) {
                faultOf(text.replace("#", "" + v), 2, place);
            }
        }
        faultOf(text.replace("#", "4294967296"), 2, place);
        // another token can't stand there
        faultOf(text.replace("#", ";"), 1, place);
        faultOf(text.replace("#", "to"), 1, place);
        faultOf(text.substring(0, place), 1, place);
    }

    /** Each clause is broken off behind each of its tokens: the end can't stand there. */
    private static void theEndStandsAtTheLength() {
        for (String clause : List.of("corner 0 ;", "street 0 1 to 2 ;", "lane 0 1 to 2 ;", "goal 0 ;", "teller 0 ;",
                "telling 0 facing 1 : 1 left , at 2 on ;", "start 0 facing 1 ;", "walk 1 ;", "turn back ;", "ask 0 ;",
                "follow 0 ;", "swaps ( who + 1 ) ;", "pace least of 1 , most of - 2 , 3 end end ;", "asks - 1 * 2 / 3 ;")) {
            fine(clause);
            fine(clause.replace(" ", "\n"));
            String[] tokens = clause.split(" ");
            String sofar = "";
            for (int i = 0; i + 1 < tokens.length; i++) {
                sofar += tokens[i];
                faultOf(sofar, 1, sofar.length());
                faultOf(sofar + "  ", 1, sofar.length() + 2);
                sofar += " ";
                // nor can a sign that is of no use
                faultOf(sofar + "# " + clause, 1, sofar.length());
            }
        }
    }

    /** Words and signs for which nothing else can stand: every other word, sign and some numbers are tried. */
    private static void nothingElseStandsThere() {
        List<String> tokens = new ArrayList<>(List.of("swaps", "leaves", "mixes", "pace", "asks", "corner",
                "street", "lane", "goal", "teller", "telling", "start", "walk", "turn", "ask", "follow", "to", "facing",
                "at", "of", "end", "least", "most", "left", "right", "on", "back", "x", "TO", "(", ")", "+", "-", "*",
                "/", ",", ":", ";", "=", "#"));
        tokens.addAll(NAMES);
        for (int n = 0; n <= 64; n++) {
            tokens.add("" + n);
        }
        String[][] around = {{"street 0 0 ", "to", " 1;"}, {"lane 0 0 ", "to", " 1;"},
            {"telling 0 ", "facing", " 0:1 on;"}, {"start 0 ", "facing", " 0;"}, {"telling 0 facing 0 ", ":", " 1 on;"},
            {"pace least ", "of", " 1,2 end;"}, {"pace most ", "of", " 1,2 end;"}, {"goal 0 ", ";", ""},
            {"corner 0 ", ";", ""}, {"street 0 0 to 1 ", ";", ""}, {"lane 0 0 to 1 ", ";", ""}, {"teller 0 ", ";", ""},
            {"start 0 facing 0 ", ";", ""}, {"walk 1 ", ";", ""}, {"turn back ", ";", ""}, {"ask 0 ", ";", ""},
            {"follow 0 ", ";", ""}};
        for (String[] clause : around) {
            for (String token : tokens) {
                if (token.equals(clause[1])) {
                    fine(clause[0] + token + clause[2]);
                } else {
                    faultOf(clause[0] + token + clause[2], 1, clause[0].length());
                }
            }
        }
    }

    private static void sidesOfTurn() {
        for (String side : List.of("left", "right", "back")) {
            fine("turn " + side + ";");
        }
        for (String other : List.of("on", "to", "end", "least", "who", "Left", "lef", "lefts", "1", ";", "turn")) {
            faultOf("turn " + other + ";", 1, 5);
        }
        int[] facing = {3, 1, 2};
        List<String> sides = List.of("left", "right", "back");
        for (int i = 0; i < 3; i++) {
            SecondLeft x = row(1);
            x.start(0, 0);
            read(x, "turn " + sides.get(i) + ";");
            x.played(0);
            due("turned " + sides.get(i), x.walker(1), facing[i]);
        }
    }

    private static void sidesOfATelling() {
        List<String> sides = List.of("left", "right", "on");
        for (int i = 0; i < 3; i++) {
            fine("telling 0 facing 0:1 " + sides.get(i) + ";");
            fine("telling 0 facing 0:at 1 " + sides.get(i) + ";");
            SecondLeft x = row(1);
            x.teller(0, 0, 0, 0);
            read(x, "telling 0 facing 0:4 " + sides.get(i) + ",at 5 " + sides.get(i) + ";");
            x.played(0);
            due("4 " + sides.get(i), x.ofTelling(0, 10), 100 * (i + 1) + 4);
            due("at 5 " + sides.get(i), x.ofTelling(0, 11), 100 * (i + 1) + 15);
        }
        for (String other : List.of("back", "to", "end", "least", "who", "On", "o", "ons", "1", ";", ",")) {
            faultOf("telling 0 facing 0:1 " + other + ";", 1, 21);
            faultOf("telling 0 facing 0:at 1 " + other + ";", 1, 24);
        }
    }

    private static void turnsOfATellingAreSix() {
        String text = "telling 0 facing 0:1 on";
        for (int n = 1; n <= 6; n++) {
            fine(text + ";");
            SecondLeft x = row(1);
            x.teller(0, 0, 0, 0);
            read(x, text + ";");
            due("all is done", x.played(0), -1);
            due("so many turns", x.ofTelling(0, 2), n);
            text += ",1 on";
        }
        faultOf(SIX + ",1 on;", 7, 49);
        faultOf(SIX + ",at 5 on;", 7, 49);
        faultOf(SIX + ", \n4", 7, 51);
        // of one token the least; the comma itself is fine
        faultOf(SIX + ",", 1, 49);
        faultOf(SIX + ",;", 1, 49);
        faultOf(SIX + ",on", 1, 49);
        faultOf(SIX + ",0 on;", 2, 49);
        faultOf(SIX + ",5 on;", 2, 49);
        faultOf(SIX + ",10000 on;", 2, 49);
        // the number behind "at" is another token: the seventh is told ahead of it
        faultOf(SIX + ",at 9 on;", 7, 49);
        // of one telling: the next has six of its own
        fine(SIX + ";" + SIX + ";");
        // one at least
        faultOf("telling 0 facing 0:;", 1, 19);
        faultOf("telling 0 facing 0;", 1, 18);
    }

    // ---- sums

    private static void eightAreOpen() {
        List<String> opens = List.of("(", "-", "least of ", "most of ", "least of 1,", "most of 1,");
        List<String> closes = List.of(")", "", ",1 end", ",1 end", " end", " end");
        for (int kind = 0; kind < opens.size(); kind++) {
            fine("pace " + opens.get(kind).repeat(7) + "1" + closes.get(kind).repeat(7) + ";");
            fine("pace " + opens.get(kind).repeat(8) + "1" + closes.get(kind).repeat(8) + ";");
            int ninth = 5 + 8 * opens.get(kind).length();
            faultOf("pace " + opens.get(kind).repeat(9) + "1" + closes.get(kind).repeat(9) + ";", 3, ninth);
            for (String other : opens) {
                faultOf("pace " + opens.get(kind).repeat(8) + other, 3, ninth);
                // a minus is closed behind its one
                if (!opens.get(kind).equals("-")) {
                    faultOf("pace " + opens.get(kind).repeat(8) + "1*" + other, 3, ninth + 2);
                }
                faultOf("pace " + opens.get(kind).repeat(7) + other + "(", 3, ninth - opens.get(kind).length() + other.length());
            }
        }
    }

    private static void whatIsClosedIsNotOpen() {
        String eight = "((((((((1))))))))";
        fine("pace " + eight + "+" + eight + "-" + eight + "*" + eight + "/" + eight + ";");
        fine("pace -1*-1*-1*-1*-1*-1*-1*-1*-1*-1+-1;");
        fine("pace --------1*--------1---------1;");
        fine("pace 1-1-1-1-1-1-1-1-1-1-1-1;");
        fine("pace " + eight + ";asks " + eight + ";");
        fine("pace least of (((((((1))))))),(((((((1))))))) end;");
        faultOf("pace least of ((((((((1", 3, 21);
        faultOf("pace least of 1,((((((((1", 3, 23);
        // the ninth sign that can't stand there is no ninth
        faultOf("pace ((((((((1(", 1, 14);
        faultOf("pace ((((((((1 least", 1, 15);
        faultOf("pace ((((((((least", 3, 13);
    }

    private static void aMinusIsOpenForOneOneOnly() {
        // eight less, then a product of them: the second factor stands behind, not within
        fine("pace --------1*(1);");
        fine("pace -(-(-(-1*(1)*-1)));");
        fine("pace -(-(-(-(1*1))));");
        faultOf("pace -(-(-(-(-1))));", 3, 13);
        faultOf("pace -(-(-(-(1*(1)))));", 3, 15);
        paceOf("-2*-3", 6);
        paceOf("--5", 5);
        paceOf("10--5", 15);
        paceOf("-1+12", 11);
        paceOf("-(1+12)+30", 17);
    }

    private static void namesOfEachLaw() {
        for (String law : LAWS) {
            Set<String> own = law.equals("pace") ? Set.of("narrow", "sight", "way")
                    : law.equals("asks") ? Set.of("who", "here", "asked")
                    : Set.of("who", "here", "asked", "turns", "face", "told");
            int place = law.length() + 1;
            for (String name : NAMES) {
                if (own.contains(name)) {
                    fine(law + " " + name + ";");
                    fine(law + " 1+(2*-" + name + ");");
                } else {
                    faultOf(law + " " + name + ";", 5, place);
                    faultOf(law + " 1+(2*-" + name + ");", 5, place + 6);
                    faultOf(law + " least of 1," + name + " end;", 5, place + 11);
                }
                // where no name can stand it is no matter whose it is
                faultOf(law + " 1 " + name + ";", 1, place + 2);
            }
            for (String none : List.of("Who", "whos", "wh", "left", "corner", "of", "end", "to", law)) {
                faultOf(law + " " + none + ";", 1, place);
            }
        }
        for (String name : NAMES) {
            faultOf("goal " + name + ";", 1, 5);
            faultOf(name + " 1;", 1, 0);
        }
    }

    private static void fromTheLeft() {
        paceOf("50-30-10", 10);
        paceOf("50-(30-10)", 30);
        paceOf("60/6/2", 5);
        paceOf("60/(6/2)", 20);
        paceOf("7/2*2", 6);
        paceOf("2*7/2", 7);
        paceOf("1+2*3-4/2", 5);
        paceOf("(1+2)*3", 9);
    }

    private static void divisionCutsTowardsNought() {
        paceOf("10+7/2", 13);
        paceOf("10+-7/2", 7);
        paceOf("10+7/-2", 7);
        paceOf("10+-7/-2", 13);
        paceOf("10+1/2", 10);
        paceOf("10-1/2", 10);
        paceOf("10+-1/2", 10);
        paceOf("10+6/2", 13);
    }

    private static void divisionByNought() {
        paceOf("7/0+3", 3);
        paceOf("-7/0+3", 3);
        paceOf("0/0+3", 3);
        paceOf("7/(5-5)+3", 3);
        paceOf("9999*9999/0+3", 3);
        paceOf("narrow+8/narrow+4", 4);
    }

    private static void aMillionAtMost() {
        // 9999 * 100 is 999900
        paceOf("9999*100+99-9999*100", 99);
        paceOf("9999*100+100-9999*100-90", 10);
        paceOf("9999*100+101-9999*100-90", 10);
        paceOf("9999*100+9999-9999*100-90", 10);
        paceOf("9999*100-(0-100)-9999*100-90", 10);
        paceOf("9999*100-(0-101)-9999*100-90", 10);
        paceOf("1000*1000-9999*100-90", 10);
        paceOf("1000*1001-9999*100-90", 10);
        paceOf("9999*9999-9999*100-90", 10);
        paceOf("9999*9999*9999-9999*100-90", 10);
        paceOf("(0-1000)*(0-1001)-9999*100-90", 10);
        paceOf("(1000*1000+1)-9999*100-90", 10);
        paceOf("-(0-9999*9999)-9999*100-90", 10);
        paceOf("9999*9999/9999-90", 10);
        paceOf("most of 9999*9999,1 end-9999*100-90", 10);
        paceOf("least of 9999*9999,9999*100+101 end-9999*100-90", 10);
    }

    private static void aMillionLessAtLeast() {
        paceOf("0-9999*100-99+9999*100+100", 1);
        paceOf("0-9999*100-99+9999*100+101", 2);
        paceOf("0-9999*100-100+9999*100+110", 10);
        paceOf("0-9999*100-101+9999*100+110", 10);
        paceOf("0-9999*100-9999+9999*100+110", 10);
        paceOf("-1000*1000+9999*100+110", 10);
        paceOf("-1000*1001+9999*100+110", 10);
        paceOf("1001*-1000+9999*100+110", 10);
        paceOf("-9999*9999+9999*100+110", 10);
        paceOf("-(9999*9999)+9999*100+110", 10);
        paceOf("-9999*9999*9999+9999*100+110", 10);
        paceOf("-9999*100+(0-101)+9999*100+110", 10);
        paceOf("least of -9999*9999,1 end+9999*100+110", 10);
        // at each step: twice below is no farther below
        paceOf("-9999*9999-9999*9999+9999*100+110", 10);
        paceOf("9999*9999+9999*9999-9999*100-90", 10);
    }

    private static void leastAndMost() {
        paceOf("least of 3,5 end", 3);
        paceOf("least of 5,3 end", 3);
        paceOf("least of 4,4 end", 4);
        paceOf("most of 3,5 end", 5);
        paceOf("most of 5,3 end", 5);
        paceOf("most of 4,4 end", 4);
        paceOf("most of -3,-5 end+9", 6);
        paceOf("least of -3,-5 end+9", 4);
        faultOf("pace least of 1 end;", 1, 16);
        faultOf("pace least of 1,2,3 end;", 1, 17);
        faultOf("pace least 1,2 end;", 1, 11);
        faultOf("pace most of 1,2;", 1, 16);
        faultOf("pace end;", 1, 5);
        faultOf("pace ();", 1, 6);
    }

    // ---- faults

    private static void theFirstFaultThatIsComeTo() {
        faultOf("corner 6;street 16 9 to 99;", 2, 7);
        faultOf("corner 5;street 16 9 to 99;", 2, 16);
        faultOf("corner 5;street 15 9 to 99;", 2, 19);
        faultOf("corner 5;street 15 3 to 99;", 2, 24);
        faultOf("pace who;pace 1;", 5, 5);
        faultOf("pace 1;pace who;", 4, 7);
        faultOf("goal # who", 1, 5);
        faultOf("goal 0;\t", 1, 7);
    }

    private static void ofOneTheLeast() {
        // a number too great where none can stand; a name of another law where none can stand
        faultOf("goal 0 10000;", 1, 7);
        faultOf("turn 10000;", 1, 5);
        faultOf("pace 1 10000;", 1, 7);
        faultOf("pace 1 told;", 1, 7);
        // a ninth that is a name of another law is no ninth
        faultOf("pace ((((((((told", 5, 13);
        faultOf("pace ((((((((10000", 2, 13);
        faultOf("pace ((((((((#", 1, 13);
    }

    private static void aFaultEmptiesTheTape() {
        SecondLeft x = new SecondLeft();
        put(x, "goal 0");
        due("a fault", x.text(), -1);
        due("no bytes", x.about(8), 0);
        due("nothing to end", x.end(1), -1);
        due("empty now", x.text(), 0);
        due("without a fault", x.fault(0), 0);
    }

    // ---- the text that rules

    private static void swapsLeavesMixesAreNoughtToTen() {
        int[][] sums = {{-9999, 0}, {-1, 0}, {0, 0}, {1, 1}, {9, 9}, {10, 10}, {11, 10}, {9999, 10}};
        for (int law = 0; law < 3; law++) {
            for (int[] sum : sums) {
                SecondLeft x = told(101);
                due("without", x.ofTelling(0, 3 + law), 2 + law);
                ruled(x, LAWS.get(law) + " " + sum[0] + ";");
                due(LAWS.get(law) + " " + sum[0], x.ofTelling(0, 3 + law), sum[1]);
                for (int other = 0; other < 3; other++) {
                    due("the others as told", other == law || x.ofTelling(0, 3 + other) == 2 + other, true);
                }
                due("as told yet", x.ofTeller(0, 1 + law), 2 + law);
                x.by(-1);
                due("without again", x.ofTelling(0, 3 + law), 2 + law);
            }
        }
    }

    private static void paceIsOneTo99() {
        int[][] sums = {{-9999, 1}, {-1, 1}, {0, 1}, {1, 1}, {2, 2}, {98, 98}, {99, 99}, {100, 99}, {9999, 99}};
        due("without", row(2).far(0, 1), 10);
        due("by a text without", ruled(row(2), "asks 7;").far(0, 1), 10);
        for (int[] sum : sums) {
            SecondLeft x = ruled(row(2), "pace " + sum[0] + ";");
            due("far by pace " + sum[0], x.far(0, 1), sum[1]);
            x.start(0, 1);
            x.walk(1);
            due("walked by pace " + sum[0], x.walker(2), sum[1]);
            saying(x, 0, 1, 301);
            x.start(0, 1);
            x.follow(0);
            due("followed by pace " + sum[0], x.walker(2), sum[1]);
        }
    }

    private static void asksIsNoughtTo99() {
        int[][] sums = {{-9999, 0}, {-1, 0}, {0, 0}, {1, 1}, {98, 98}, {99, 99}, {100, 99}, {9999, 99}};
        for (int[] sum : sums) {
            SecondLeft x = ruled(row(1), "asks " + sum[0] + ";");
            x.teller(0, 0, 0, 0);
            x.start(0, 0);
            x.ask(0);
            due("asks " + sum[0], x.walker(2), sum[1]);
        }
        SecondLeft y = ruled(row(1), "pace 7;");
        y.teller(0, 0, 0, 0);
        y.start(0, 0);
        y.ask(0);
        due("by a text without", y.walker(2), 20);
        y.by(-1);
        y.ask(0);
        due("without", y.walker(2), 40);
    }

    private static void namesAreWhatTheySay() {
        String[] sums = {"who", "here-9", "turns", "face", "told", "asked"};
        int[][] dues = {{5, 5}, {6, 6}, {1, 6}, {3, 0}, {5, 5}, {0, 0}};
        for (int law = 0; law < 3; law++) {
            for (int i = 0; i < sums.length; i++) {
                SecondLeft y = corners(16);
                for (int t = 0; t < 6; t++) {
                    y.teller(15, t, t, t);
                }
                y.telling(5, 3, 101, 0);
                y.telling(5, 0, 101101101, 101101101);
                ruled(y, LAWS.get(law) + " " + sums[i] + ";");
                due(LAWS.get(law) + " " + sums[i] + ", one turn", y.ofTelling(0, 3 + law), dues[i][0]);
                due(LAWS.get(law) + " " + sums[i] + ", six turns", y.ofTelling(1, 3 + law), dues[i][1]);
            }
        }
        SecondLeft asked = ruled(row(1), "swaps asked;asks asked;");
        asked.teller(0, 0, 0, 0);
        asked.telling(0, 0, 101, 0);
        asked.start(0, 0);
        int seconds = 0;
        for (int n = 0; n < 12; n++) {
            due("asked " + n + " times", asked.ofTelling(0, 3), Math.min(n, 10));
            due("as often as ahead of it", asked.walker(2), seconds);
            asked.ask(0);
            seconds += n;
        }
        // narrow, sight (where it leads to), way
        for (int direction = 0; direction < 4; direction++) {
            SecondLeft y = new SecondLeft();
            y.corner(2);
            y.corner(5);
            y.street(0, direction, 1, direction % 2 == 1);
            ruled(y, "pace 40*narrow+5*sight+way;");
            due("there", y.far(0, 1), 40 * (direction % 2) + 25 + direction);
            due("back", y.far(1, 0), 40 * (direction % 2) + 10 + (direction + 2) % 4);
        }
    }

    // ---- played

    private static int playedOf(SecondLeft x, String text) {
        return x.played(read(x, text));
    }

    private static void playedToItsEnd() {
        due("no clause", playedOf(new SecondLeft(), ""), -1);
        due("laws alone", playedOf(new SecondLeft(), "pace 1;asks 1;swaps 1;leaves 1;mixes 1;"), -1);
        SecondLeft x = new SecondLeft();
        due("a law isn't told by that", playedOf(x, "pace 7;corner 0;"), -1);
        due("none rules", x.about(6), -1);
        due("24 clauses", playedOf(row(1), "goal 0;".repeat(24)), -1);
    }

    private static void theClauseThatCantBe() {
        due("the first", playedOf(new SecondLeft(), "goal 0;corner 0;"), 0);
        due("the last of 24", playedOf(row(1), "goal 0;".repeat(23) + "goal 1;"), 23);
        due("laws are counted", playedOf(new SecondLeft(), "pace 1;asks 1;goal 0;"), 2);
        SecondLeft x = new SecondLeft();
        due("the third", playedOf(x, "corner 1;corner 2;goal 2;corner 3;"), 2);
        due("what was done stays", x.about(0), 2);
        due("nothing behind it is done", x.about(1), -1);
        // full: the 17th corner, the 7th teller, the 9th telling
        due("17 corners", playedOf(new SecondLeft(), "corner 0;".repeat(17)), 16);
        due("16 corners", playedOf(new SecondLeft(), "corner 0;".repeat(16)), -1);
        due("7 tellers", playedOf(row(1), "teller 0;".repeat(7)), 6);
        due("6 tellers", playedOf(row(1), "teller 0;".repeat(6)), -1);
        String telling = "telling 0 facing 0:1 on;";
        due("9 tellings", playedOf(row(1), "teller 0;" + telling.repeat(9)), 9);
        due("8 tellings", playedOf(row(1), "teller 0;" + telling.repeat(8)), -1);
    }

    private static void soManyAreWalkedAsCanBe() {
        for (int n = 1; n <= 5; n++) {
            SecondLeft x = row(4);
            x.start(0, 1);
            due("walk " + n, playedOf(x, "walk " + n + ";goal 0;"), n <= 3 ? -1 : 0);
            due("so far", x.walker(0), Math.min(n, 3));
            due("seconds", x.walker(2), 10 * Math.min(n, 3));
            due("steps", x.about(7), 1 + Math.min(n, 3));
            due("behind it", x.about(1), n <= 3 ? 0 : -1);
        }
        SecondLeft x = row(4);
        x.start(3, 1);
        due("none can", playedOf(x, "walk 20;"), 0);
        due("no step", x.about(7), 1);
        due("nobody", playedOf(row(4), "walk 1;"), 0);
        SecondLeft y = ring(3);
        y.start(0, 1);
        due("20 of them", playedOf(y, "walk 20;"), -1);
        due("200 seconds", y.walker(2), 200);
    }

    private static void eachDeedThatCantBe() {
        due("corner 0 isn't there", playedOf(new SecondLeft(), "teller 0;"), 0);
        due("a street to itself", playedOf(row(2), "street 0 0 to 0;"), 0);
        due("a street that is there", playedOf(row(2), "street 0 1 to 1;"), 0);
        due("a street from there", playedOf(row(2), "lane 1 3 to 0;"), 0);
        due("from a corner that isn't", playedOf(row(2), "street 2 0 to 0;"), 0);
        due("to a corner that isn't", playedOf(row(2), "lane 0 0 to 2;"), 0);
        due("a goal that isn't", playedOf(row(15), "goal 15;"), 0);
        due("a goal that is", playedOf(row(16), "goal 15;"), -1);
        due("a teller who isn't", playedOf(row(1), "telling 0 facing 0:1 on;"), 0);
        due("a start that isn't", playedOf(row(1), "start 1 facing 0;"), 0);
        due("nobody turns", playedOf(row(1), "turn left;"), 0);
        due("nobody asks", playedOf(told(101), "ask 0;"), 0);
        due("nobody follows", playedOf(told(101), "follow 0;"), 0);
        SecondLeft x = told(101);
        x.start(1, 1);
        due("a teller elsewhere", playedOf(x, "ask 0;"), 0);
        due("a teller who isn't", playedOf(x, "ask 1;"), 0);
        due("a telling that isn't", playedOf(x, "follow 1;"), 0);
        x.start(3, 1);
        due("not all of it can be gone: followed all the same", playedOf(x, "follow 0;goal 0;"), -1);
    }

    private static void eachNumberComesToItsPlace() {
        SecondLeft x = new SecondLeft();
        for (int i = 0; i < 15; i++) {
            x.corner(0);
        }
        for (int i = 0; i < 4; i++) {
            x.teller(1, 1, 1, 1);
        }
        for (int i = 0; i < 7; i++) {
            x.telling(0, 0, 101, 0);
        }
        due("all is done", playedOf(x, "corner 5;street 3 1 to 7;lane 9 2 to 14;street 7 1 to 8;goal 11;teller 3;"
                + "teller 13;telling 5 facing 3:2 left,at 4 right,3 on,at 5 on,4 left,at 1 left;start 3 facing 1;walk 2;"
                + "start 13 facing 2;ask 5;turn right;follow 7;"), -1);
        due("corner 5", x.ofCorner(15, 0), 5);
        due("street 3 1 to 7", x.ofCorner(3, 2), 7);
        due("no lane", x.ofCorner(3, 6), 0);
        due("lane 9 2 to 14", x.ofCorner(9, 3), 14);
        due("a lane", x.ofCorner(14, 5), 1);
        due("goal 11", x.about(1), 11);
        due("teller 3", x.ofTeller(4, 0), 3);
        due("teller 13", x.ofTeller(5, 0), 13);
        due("without slips", x.ofTeller(5, 1) + x.ofTeller(5, 2) + x.ofTeller(5, 3), 0);
        int[] telling = {5, 3, 6, 0, 0, 0, -1, -1, -1, -1, 102, 214, 303, 315, 104, 111, -1};
        for (int what = 0; what < telling.length; what++) {
            due("telling 7, " + what, x.ofTelling(7, what), telling[what]);
        }
        due("asked 5", x.ofTeller(5, 4), 1);
        due("asked none else", x.ofTeller(0, 4) + x.ofTeller(4, 4), 0);
        due("start 13", x.walker(0), 13);
        due("facing 2, turned right", x.walker(1), 3);
        due("20 seconds", x.walker(2), 20);
        due("steps", x.about(7), 7);
        for (int i = 0; i < 4; i++) {
            x.undo();
        }
        due("walk 2 from 3", x.walker(0), 8);
        due("facing 1", x.walker(1), 1);
    }
}
