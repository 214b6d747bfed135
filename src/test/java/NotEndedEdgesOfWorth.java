/** The edges of what a text is worth: its numbers, its clauses and conditions, and its letters. */
public final class NotEndedEdgesOfWorth {
    private static final int MOST = 1_000_000;

    public static void main(String[] args) {
        numbersAsTold();
        numbersAreCut();
        numbersAreCutBehindEachSign();
        comparedNumbersAreCut();
        divisionCuts();
        divisionByNothing();
        fromTheLeft();
        comparisonsAtTheEdge();
        conditions();
        theFirstClauseThatHolds();
        nothingWithout();
        worthOfATurningIsCut();
        heldAndPutIn();
        howManyOthers();
        meanOfOthers();
        sentAmongOthers();
        wordsPast();
        hoursSince();
        theHour();
        lettersAtHome();
        atHourZeroAsTold();
        Bench.close();
    }

    private static void sum(String sum, int want) {
        NotEnded x = Bench.withLaws("y:" + sum + ";x:" + sum);
        x.person(40, 7, 0, false);
        Bench.due("worth of " + sum, Bench.worth(x, 0, 0, 0), want);
        Bench.due("worth of x:" + sum, Bench.worth(x, 0, 2, 0), want);
    }

    private static void holds(String condition, boolean want) {
        sum(condition + "?1", want ? 1 : 0);
    }

    private static void numbersAsTold() {
        Bench.sentence("a number (1 to 4 digits)");
        sum("0", 0);
        sum("9", 9);
        sum("10", 10);
        sum("999", 999);
        sum("1000", 1000);
        sum("9999", 9999);
        sum("0000", 0);
        sum("0009", 9);
        sum("0100", 100);
    }

    private static void numbersAreCut() {
        Bench.sentence("numbers are within -1,000,000 .. 1,000,000");
        sum("999*1000+999", 999_999);
        sum("1000*1000", MOST);
        sum("1000*1000+0", MOST);
        sum("999*1000+1000", MOST);
        sum("999*1000+1001", MOST);
        sum("1001*1000", MOST);
        sum("9999*9999", MOST);
        sum("0-999*1000-999", -999_999);
        sum("0-1000*1000", -MOST);
        sum("0-999*1000-1000", -MOST);
        sum("0-999*1000-1001", -MOST);
        sum("[0-1001]*1000", -MOST);
        sum("9999*[0-9999]", -MOST);
        sum("[0-9999]*[0-9999]", MOST);
    }

    private static void numbersAreCutBehindEachSign() {
        Bench.sentence("Behind each sign numbers are within -1,000,000 .. 1,000,000");
        sum("1000*1000+1-1", 999_999);
        sum("1000*1000+9999-9999", 990_001);
        sum("0-1000*1000-1+1", -999_999);
        sum("[0-1000*1000]-9999+9999", -990_001);
        sum("1001*1000/2", 500_000);
        sum("9999*9999/9999", 100);
        sum("[0-9999*9999]/9999", -100);
        sum("9999*9999-9999*9999", 0);
        sum("9999*9999-9999*9998", 0);
        sum("[1000*1000+1000*1000]/4", 250_000);
        // a million times a million goes round in 32 bits, a million in the third power in 64
        sum("1000*1000*[1000*1000]", MOST);
        sum("1000*1000*[0-1000*1000]", -MOST);
        sum("[0-1000*1000]*[0-1000*1000]", MOST);
        sum("9999*9999*9999*9999*9999*9999*9999*9999", MOST);
        sum("[0-9999]*9999*9999*9999*9999*9999*9999*9999", -MOST);
        sum("1000*1000+1000*1000-1000*1000", 0);
        sum("[0-1000*1000]-1000*1000+1000*1000", 0);
    }

    private static void comparedNumbersAreCut() {
        Bench.sentence("Behind each sign numbers are within these bounds, in a CONDITION too");
        holds("9999*9999=1000*1000", true);
        holds("9999*9999>1000*1000", false);
        holds("1000*1000+1>1000*1000", false);
        holds("1000*1000>1000*1000-1", true);
        holds("[0-9999]*9999=0-1000*1000", true);
        holds("[0-9999]*9999<0-1000*1000", false);
    }

    private static void divisionCuts() {
        Bench.sentence("/ cuts towards 0");
        sum("7/2", 3);
        sum("[0-7]/2", -3);
        sum("7/[0-2]", -3);
        sum("[0-7]/[0-2]", 3);
        sum("1/2", 0);
        sum("[0-1]/2", 0);
        sum("6/2", 3);
        sum("5/6", 0);
        sum("6/6", 1);
        sum("[0-5]/6", 0);
        sum("[0-6]/6", -1);
        sum("1000*1000/[0-1]", -MOST);
        sum("[0-1000*1000]/[0-1]", MOST);
        sum("0/7", 0);
    }

    private static void divisionByNothing() {
        Bench.sentence("/ by 0 gives 0");
        sum("7/0", 0);
        sum("[0-7]/0", 0);
        sum("0/0", 0);
        sum("7/0000", 0);
        sum("7/[v-40]", 0);
        sum("7/[v-41]", -7);
        sum("7/[v-39]", 7);
        sum("5+7/0", 5);
        sum("7/0+5", 5);
        sum("7/0*5", 0);
        sum("100/[1/2]", 0);
        sum("8/0/0", 0);
        holds("7/0=0", true);
    }

    private static void fromTheLeft() {
        Bench.sentence("SUM: TERMS with + or - between; TERM: ATOMS with * or / between");
        sum("9-3-2", 4);
        sum("9-3+2", 8);
        sum("16/4/2", 2);
        sum("16/4*2", 8);
        sum("7/2*2", 6);
        sum("2*7/2", 7);
        sum("2+3*4", 14);
        sum("3*4+2", 14);
        sum("20-8/2", 16);
        sum("[2+3]*4", 20);
        sum("[20-8]/2", 6);
        sum("9-[3-2]", 8);
        sum("[[[[[[5]]]]]]", 5);
    }

    private static void comparisonsAtTheEdge() {
        Bench.sentence("one of = < >");
        holds("v=39", false);
        holds("v=40", true);
        holds("v=41", false);
        holds("v<40", false);
        holds("v<41", true);
        holds("v>40", false);
        holds("v>39", true);
        holds("0-1<0", true);
        holds("0>0-1", true);
    }

    private static void conditions() {
        Bench.sentence("CONDITION: TRUTHS with |; TRUTH: UNITS with &; UNIT: ! UNIT, ( CONDITION )");
        conditionsOf("1=0", "1=1");
        conditionsOf("1<1", "0<1");
        conditionsOf("1>1", "v>39");
        conditionsOf("v<40", "p=7");
        conditionsOf("1=0", "9999>p");
        conditionsOf("v>40", "0-1<0");
        holds("0<1&1=1", true);
        holds("1>0&1=1", true);
        holds("0<1&1>0", true);
        holds("!1=0&0<1", true);
        holds("!1<0&!0>1", true);
    }

    private static void conditionsOf(String... sides) {
        for (int bits = 0; bits < 8; bits++) {
            boolean p = (bits & 1) != 0;
            boolean q = (bits & 2) != 0;
            boolean r = (bits & 4) != 0;
            String a = sides[bits & 1];
            String b = sides[bits >> 1 & 1];
            String c = sides[bits >> 2 & 1];
            holds(a + "|" + b, p || q);
            holds(a + "&" + b, p && q);
            holds("!" + a, !p);
            holds("!!" + a, p);
            holds("!" + a + "&" + b, !p && q);
            holds("!" + a + "|" + b, !p || q);
            holds("!(" + a + "&" + b + ")", !(p && q));
            holds("!(" + a + "|" + b + ")", !(p || q));
            holds(a + "|" + b + "&" + c, p || q && r);
            holds(a + "&" + b + "|" + c, p && q || r);
            holds("(" + a + "|" + b + ")&" + c, (p || q) && r);
            holds(a + "&(" + b + "|" + c + ")", p && (q || r));
            holds("!!!!!!" + a + "|!" + b, p || !q);
            holds(a + "&!(" + b + "|!" + c + ")", p && !(q || !r));
        }
    }

    private static void theFirstClauseThatHolds() {
        Bench.sentence("the SUM of the first CLAUSE with it whose CONDITION holds (or has none)");
        sum("1;y:2;x:1;x:2", 1);
        NotEnded x = Bench.withLaws("y:v<40?1;y:v<41?2;y:v>0?3;y:4", "x:7;y:v>40?1;g:5;y:v=40?0;y:9", "g:v>40?6;g:8");
        x.person(40, 0, 0, false);
        x.person(39, 0, 0, false);
        x.person(41, 0, 0, false);
        x.person(0, 0, 0, false);
        int[][] want = {{2, 0, 0}, {0, 5, 7}, {0, 8, 0}, {1, 0, 0}, {9, 5, 7}, {0, 8, 0}, {3, 0, 0}, {1, 5, 7},
            {0, 6, 0}, {1, 0, 0}, {9, 5, 7}, {0, 8, 0}};
        for (int i = 0; i < want.length; i++) {
            for (int label = 0; label <= 2; label++) {
                Bench.due("law " + i % 3 + " of " + i / 3, Bench.worth(x, i % 3, label, i / 3), want[i][label]);
            }
        }
        NotEnded last = Bench.withLaws("y:1=0?1;".repeat(14) + "y:77");
        last.person(0, 0, 0, false);
        Bench.due("the last of fifteen", Bench.worth(last, 0, 0, 0), 77);
    }

    private static void nothingWithout() {
        Bench.sentence("WORTH of a LABEL: 0 without");
        NotEnded x = Bench.withLaws("y:5", "g:5", "x:5", "y:v>40?5;g:v<40?5;x:!v=40?5");
        x.person(40, 0, 0, false);
        for (int law = 0; law < 4; law++) {
            for (int label = 0; label <= 2; label++) {
                Bench.due("law " + law + " label " + label, Bench.worth(x, law, label, 0), law == label ? 5 : 0);
            }
        }
        NotEnded t = Bench.withTurnings("w:a=1?1", "w:a=1?1;w:b=1?1");
        Bench.due("no clause holds", t.lets(0, 30), 0);
        Bench.due("one holds", t.lets(0, 31), 1);
        Bench.due("no clause of two holds", t.lets(1, 28), 0);
        Bench.due("the second holds", t.lets(1, 30), 1);
    }

    private static void worthOfATurningIsCut() {
        Bench.sentence("numbers are cut in a TURNING too");
        NotEnded x = Bench.withTurnings("w:9999*9999-1000*1000", "w:1000*1000+a-1000*1000", "w:1/2", "w:a/b",
            "w:999*1000+999+a-999*1000-999");
        Bench.due("cut to the same", x.bars(0), 32);
        Bench.due("one more than the most", x.bars(1), 32);
        Bench.due("cut towards 0", x.bars(2), 32);
        Bench.due("by 0 gives 0", x.bars(3), 24);
        Bench.due("just the most", x.bars(4), 16);
    }

    private static void heldAndPutIn() {
        Bench.sentence("v what it HOLDS, p PUT IN");
        NotEnded x = Bench.withLaws("y:v;g:p");
        x.person(0, 0, 0, false);
        x.person(100, 99, 0, false);
        x.person(0, 99, 0, true);
        x.person(100, 0, 0, true);
        int[][] want = {{0, 0}, {100, 99}, {0, 99}, {100, 0}};
        for (int j = 0; j < 4; j++) {
            Bench.due("v of " + j, Bench.worth(x, 0, 0, j), want[j][0]);
            Bench.due("p of " + j, Bench.worth(x, 0, 1, j), want[j][1]);
        }
    }

    private static void howManyOthers() {
        Bench.sentence("n how many others are in its HOUSE");
        NotEnded x = Bench.withLaws("y:n");
        for (int j = 0; j < 10; j++) {
            x.person(0, 0, 3, j % 2 == 1);
            Bench.due("n of the first of " + (j + 1), Bench.worth(x, 0, 0, 0), j);
            Bench.due("n of the last of " + (j + 1), Bench.worth(x, 0, 0, j), j);
        }
        NotEnded z = Bench.withLaws("y:n");
        for (int j = 0; j < 10; j++) {
            z.person(0, 0, j % 4, false);
        }
        for (int j = 0; j < 10; j++) {
            Bench.due("n in one of four houses", Bench.worth(z, 0, 0, j), j % 4 < 2 ? 2 : 1);
        }
    }

    private static void meanOfOthers() {
        Bench.sentence("m what these HOLD in the mean (cut; 0 without)");
        int[][] others = {{}, {0}, {100}, {0, 1}, {1, 1}, {1, 2}, {99, 100}, {100, 100}, {0, 0, 2}, {0, 0, 3},
            {100, 100, 100, 100, 100, 100, 100, 100, 100}, {0, 0, 0, 0, 0, 0, 0, 0, 8}, {0, 0, 0, 0, 0, 0, 0, 0, 9}};
        int[] want = {0, 0, 100, 0, 1, 1, 99, 100, 0, 1, 100, 0, 1};
        for (int i = 0; i < others.length; i++) {
            NotEnded x = Bench.withLaws("y:m");
            x.person(77, 0, 1, false);
            for (int j = 0; j < others[i].length; j++) {
                x.person(others[i][j], 0, 1, j % 2 == 1);
            }
            Bench.due("m of case " + i, Bench.worth(x, 0, 0, 0), want[i]);
        }
        NotEnded x = Bench.withLaws("y:m");
        x.person(77, 0, 1, false);
        x.person(50, 0, 0, false);
        Bench.due("one in another house", Bench.worth(x, 0, 0, 0), 0);
    }

    private static void sentAmongOthers() {
        Bench.sentence("s how many of them are SENT");
        NotEnded x = Bench.withLaws("y:s");
        x.person(0, 0, 0, false);
        x.person(0, 0, 1, true);
        Bench.due("none", Bench.worth(x, 0, 0, 0), 0);
        Bench.due("it itself does not count", Bench.worth(x, 0, 0, 1), 0);
        for (int j = 2; j < 10; j++) {
            x.person(0, 0, 0, true);
            Bench.due("sent ones near", Bench.worth(x, 0, 0, 0), j - 1);
            Bench.due("sent ones near a sent one", Bench.worth(x, 0, 0, j), j - 2);
        }
        NotEnded z = Bench.withLaws("y:s");
        z.person(0, 0, 0, true);
        z.person(0, 0, 0, false);
        Bench.due("a sent one has none near", Bench.worth(z, 0, 0, 0), 0);
    }

    /** What a letter is as an hour begins, by a law that adds it to 20 at that hour alone. */
    private static long letterAt(String letter, int hour, int... words) {
        NotEnded x = Bench.withLaws("y:i=" + hour + "?" + letter);
        x.person(20, 0, 0, false);
        for (int word : words) {
            x.word(word);
        }
        Bench.due(letter + " before its hour", x.run(0, 0, hour, 0, 0), 20);
        return x.run(0, 0, hour + 1, 0, 0) - 20;
    }

    private static void wordsPast() {
        Bench.sentence("at an HOUR i a WORD is PAST, if it was due at i or before; u how many WORDS are PAST");
        Bench.due("no word", letterAt("u", 47), 0);
        Bench.due("an hour before", letterAt("u", 8, 9), 0);
        Bench.due("at its hour", letterAt("u", 9, 9), 1);
        Bench.due("an hour behind", letterAt("u", 10, 9), 1);
        Bench.due("at the first hour", letterAt("u", 0, 0), 1);
        Bench.due("not at the first hour", letterAt("u", 0, 1), 0);
        Bench.due("at the last hour", letterAt("u", 47, 47), 1);
        Bench.due("before the last hour", letterAt("u", 46, 47), 0);
        Bench.due("all of four at one hour", letterAt("u", 5, 5, 5, 5, 5), 4);
        Bench.due("all of four later", letterAt("u", 47, 47, 0, 20, 46), 4);
        Bench.due("three of four", letterAt("u", 46, 47, 0, 20, 46), 3);
        Bench.due("none of four", letterAt("u", 4, 5, 6, 7, 8), 0);
    }

    private static void hoursSince() {
        Bench.sentence("d HOURS since the latest WORD that is PAST was due (0 without)");
        Bench.due("no word", letterAt("d", 47), 0);
        Bench.due("none past", letterAt("d", 8, 9), 0);
        Bench.due("just due", letterAt("d", 9, 9), 0);
        Bench.due("an hour since", letterAt("d", 10, 9), 1);
        Bench.due("since the first hour", letterAt("d", 47, 0), 47);
        Bench.due("at the first hour", letterAt("d", 0, 0), 0);
        Bench.due("at the last hour", letterAt("d", 47, 47), 0);
        Bench.due("the latest, told first", letterAt("d", 20, 15, 3), 5);
        Bench.due("the latest, told last", letterAt("d", 20, 3, 15), 5);
        Bench.due("not one to come", letterAt("d", 20, 3, 21), 17);
        Bench.due("one that has come", letterAt("d", 21, 3, 21), 0);
        Bench.due("the latest of four", letterAt("d", 47, 46, 1, 30, 2), 1);
    }

    private static void theHour() {
        Bench.sentence("i the HOUR");
        for (int hour = 0; hour < 48; hour++) {
            Bench.due("i at " + hour, letterAt("i", hour), hour);
        }
        NotEnded x = Bench.withLaws("y:i>47?1;y:i<0?1");
        x.person(0, 0, 0, false);
        Bench.due("no hour behind 47", x.run(0, 0, 48, 0, 0), 0);
    }

    private static void lettersAtHome() {
        Bench.sentence("it is in no HOUSE from then on (n, m, s are 0 for it)");
        for (String letter : new String[] {"n", "m", "s"}) {
            NotEnded x = Bench.withLaws("g:100;y:i>0?" + letter, "g:v=0?100;y:v>0&i>0?" + letter, "y:i=0?" + letter);
            x.person(0, 0, 0, false);
            x.person(30, 0, 0, false);
            x.person(40, 0, 0, true);
            Bench.due(letter + " in its house", x.run(2, 0, 1, 0, 0) > 0, true);
            Bench.due(letter + " at home", x.run(0, 0, 48, 0, 0), 0);
            Bench.due(letter + " at home with another one", x.run(0, 0, 48, 1, 0), 30);
            int more = letter.equals("m") ? 40 : 1;
            Bench.due(letter + " of who stays: the other is home", x.run(1, 0, 2, 1, 0), 30 + more);
        }
    }

    private static void atHourZeroAsTold() {
        Bench.sentence("WORTH at HOUR 0 as told");
        NotEnded x = Bench.withLaws("y:i*100+u*10+d;g:v;x:p");
        x.person(60, 30, 0, false);
        x.word(0);
        x.word(0);
        x.word(1);
        x.run(0, 0, 48, 0, 0);
        x.lean(0, 0, 0, 0);
        x.lean(0, 0, 0, 1);
        x.act(0, 0, 30, 1);
        x.help(0, 0, 0, 0);
        Bench.due("the hour, the words", Bench.worth(x, 0, 0, 0), 20);
        Bench.due("what it holds", Bench.worth(x, 0, 1, 0), 60);
        Bench.due("what it put in", Bench.worth(x, 0, 2, 0), 30);
    }
}
