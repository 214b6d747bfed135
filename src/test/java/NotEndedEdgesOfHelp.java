/** The edges of turnings and what was said, of acts of help, and of lookers. */
public final class NotEndedEdgesOfHelp {
    public static void main(String[] args) {
        outcomes();
        things();
        letsWhatIsNotNothing();
        neverWrong();
        bolder();
        said();
        stayed();
        sixActs();
        costs();
        actsAtTheEdge();
        noHelpNeeded();
        noneHelps();
        givenBack();
        anotherHouse();
        theLastToldHouse();
        notThereAtAll();
        itsOwnActs();
        eachKindAlone();
        theLeastCost();
        theFewest();
        theLowerAct();
        lookersOfNone();
        lookersAtFifty();
        theLargestSet();
        theLowerPerson();
        lookersAtTheMost();
        Bench.close();
    }

    private static void outcomes() {
        Bench.sentence("OUTCOMES 0 .. 31");
        NotEnded x = Bench.withTurnings("w:1");
        Bench.due("the first", x.lets(0, 0), 1);
        Bench.due("the last", x.lets(0, 31), 1);
        for (int outcome : new int[] {-1, 32, Integer.MIN_VALUE, Integer.MAX_VALUE}) {
            Bench.due("outcome " + outcome, x.lets(0, outcome), Bench.NONE);
        }
        Bench.law(x, "y:0");
        Bench.due("the first", x.stayed(0, 0, 0), 0);
        Bench.due("the last", x.stayed(0, 0, 31), 0);
        for (int outcome : new int[] {-1, 32, Integer.MIN_VALUE, Integer.MAX_VALUE}) {
            Bench.due("outcome " + outcome, x.stayed(0, 0, outcome), Bench.NONE);
        }
    }

    private static void things() {
        Bench.sentence("a is bit 0, .. e bit 4");
        NotEnded x = Bench.withTurnings("w:a", "w:b", "w:c", "w:d", "w:e", "w:a+b+c+d+e=5?1", "w:a+b+c+d+e=0?1");
        for (int outcome = 0; outcome < 32; outcome++) {
            for (int thing = 0; thing < 5; thing++) {
                Bench.due("thing " + thing + " of " + outcome, x.lets(thing, outcome), outcome >> thing & 1);
            }
            Bench.due("all of them: " + outcome, x.lets(5, outcome), outcome == 31 ? 1 : 0);
            Bench.due("none of them: " + outcome, x.lets(6, outcome), outcome == 0 ? 1 : 0);
        }
    }

    private static void letsWhatIsNotNothing() {
        Bench.sentence("LETS an OUTCOME, if WORTH of w is not 0; else it BARS it");
        NotEnded x = Bench.withTurnings("w:0", "w:1", "w:0-1", "w:9999*9999", "w:a-b", "w:a/2", "w:a=2?1");
        int[] lets = {0, 1, 1, 1};
        for (int i = 0; i < lets.length; i++) {
            Bench.due("turning " + i, x.lets(i, 0), lets[i]);
        }
        Bench.due("1 less 0", x.lets(4, 1), 1);
        Bench.due("0 less 1", x.lets(4, 2), 1);
        Bench.due("1 less 1", x.lets(4, 3), 0);
        Bench.due("a half is cut", x.lets(5, 1), 0);
        Bench.due("no clause holds", x.lets(6, 31), 0);
    }

    private static void neverWrong() {
        Bench.sentence("NEVER WRONG is one that BARS none");
        NotEnded x = Bench.withTurnings("w:1", "w:0", "w:a+b+c+d+e>0?1", "w:a+b+c+d+e<5?1", "w:a*b*c*d*e", "w:a");
        int[] bars = {0, 32, 1, 1, 31, 16};
        for (int i = 0; i < bars.length; i++) {
            Bench.due("turning " + i, x.bars(i), bars[i]);
        }
    }

    private static void bolder() {
        Bench.sentence("BOLDER than another is one that BARS all that this BARS, and more");
        NotEnded x = Bench.withTurnings("w:1", "w:a+b+c+d+e>0?1", "w:a", "w:b", "w:a*b", "w:0", "w:a=1?0-7",
            "w:a+b+c+d+e<5?1");
        int[] barred = new int[8];
        for (int outcome = 0; outcome < 32; outcome++) {
            boolean a = (outcome & 1) != 0;
            boolean b = (outcome & 2) != 0;
            boolean[] lets = {true, outcome != 0, a, b, a && b, false, a, outcome != 31};
            for (int i = 0; i < 8; i++) {
                barred[i] |= lets[i] ? 0 : 1 << outcome;
            }
        }
        for (int one = 0; one < 8; one++) {
            for (int other = 0; other < 8; other++) {
                boolean all = (barred[one] & barred[other]) == barred[other];
                boolean more = (barred[one] & ~barred[other]) != 0;
                Bench.due(one + " and " + other, x.bolder(one, other), all && more ? 1 : 0);
            }
        }
        Bench.due("as bold", x.bolder(2, 6), 0);
        Bench.due("itself", x.bolder(5, 5), 0);
        Bench.due("bars all, and the other none", x.bolder(5, 0), 1);
        Bench.due("bars none, and so does itself", x.bolder(0, 0), 0);
        Bench.due("just one more", x.bolder(1, 0), 1);
        Bench.due("the last bit", x.bolder(7, 0), 1);
        Bench.due("each bars one that the other lets", x.bolder(1, 7), 0);
    }

    private static void said() {
        Bench.sentence("A PERSON SAID a TURNING (NONE: nothing, as at first)");
        NotEnded x = Bench.withLaws("y:0");
        Bench.turning(x, "w:a");
        for (int i = 1; i < 8; i++) {
            Bench.turning(x, "w:b");
        }
        x.person(60, 0, 0, false);
        Bench.due("nothing at first", x.stayed(0, 0, 31), 0);
        Bench.due("nothing said again", x.say(0, -1), true);
        Bench.due("nothing still", x.stayed(0, 0, 31), 0);
        Bench.due("the first turning", x.say(0, 0), true);
        Bench.due("by a", x.stayed(0, 0, 1), 1);
        for (int turning : new int[] {-2, 8, Integer.MIN_VALUE, Integer.MAX_VALUE}) {
            Bench.due("turning " + turning, x.say(0, turning), false);
        }
        Bench.due("by a still", x.stayed(0, 0, 1), 1);
        Bench.due("not by b", x.stayed(0, 0, 2), 0);
        Bench.due("the last turning", x.say(0, 7), true);
        Bench.due("by b now", x.stayed(0, 0, 2), 1);
        Bench.due("not by a any more", x.stayed(0, 0, 1), 0);
        Bench.due("nothing", x.say(0, -1), true);
        Bench.due("as at first", x.stayed(0, 0, 31), 0);
        NotEnded none = new NotEnded();
        none.person(60, 0, 0, false);
        Bench.due("no turning", none.say(0, 0), false);
        Bench.due("nothing, with no turning", none.say(0, -1), true);
        Bench.due("nobody", new NotEnded().say(0, -1), false);
    }

    private static void stayed() {
        Bench.sentence("STAYED: those who SAID one that LETS it, and HOLD 50 or more at the end");
        NotEnded x = Bench.withLaws("y:0", "y:i=47?1", "y:0-1", "y:i=0?0-50;y:i=47?50");
        Bench.turning(x, "w:a");
        Bench.turning(x, "w:1-a");
        int[] held = {49, 50, 98, 97, 100, 0};
        for (int j = 0; j < 6; j++) {
            x.person(held[j], 0, 0, false);
            x.say(j, 0);
        }
        Bench.due("50, not 49", x.stayed(0, 0, 1), 2 + 4 + 8 + 16);
        Bench.due("49 and one in the last hour", x.stayed(1, 0, 1), 1 + 2 + 4 + 8 + 16);
        Bench.due("98 less 48, not 97", x.stayed(2, 0, 1), 4 + 16);
        Bench.due("at the end alone", x.stayed(3, 0, 1), 1 + 2 + 4 + 8 + 16 + 32);
        Bench.due("one it bars", x.stayed(0, 0, 30), 0);
        x.say(4, 1);
        Bench.due("one said another", x.stayed(0, 0, 1), 2 + 4 + 8);
        Bench.due("which lets this", x.stayed(0, 0, 0), 16);
        for (int j = 6; j < 10; j++) {
            x.person(50, 0, 0, j == 9);
            x.say(j, 0);
        }
        Bench.due("up to the tenth", x.stayed(0, 0, 31), 2 + 4 + 8 + 64 + 128 + 256 + 512);
    }

    private static NotEnded helped(String law, int holds, int putIn) {
        NotEnded x = Bench.withLaws(law);
        x.person(holds, putIn, 0, false);
        return x;
    }

    private static void sixActs() {
        Bench.sentence("ACTS (6 at most)");
        NotEnded x = helped("y:i=0?p*9-100", 50, 60);
        x.person(0, 0, 1, false);
        for (int i = 0; i < 6; i++) {
            Bench.due("act " + i, x.act(0, 0, 10, 5), i);
            Bench.due("acts", x.count(5), i + 1);
            Bench.due("help by " + (i + 1), x.help(0, 0, 0, 0), i < 5 ? Bench.NONE : 63);
        }
        Bench.due("their cost", x.help(0, 0, 0, 1), 30);
        Bench.due("a seventh", x.act(0, 0, 99, 1), Bench.NONE);
        Bench.due("a seventh for another one", x.act(1, 0, 99, 1), Bench.NONE);
        Bench.due("six", x.count(5), 6);
        Bench.due("it did not come", x.help(0, 0, 0, 1), 30);
    }

    private static void costs() {
        Bench.sentence("a COST (1 .. 50)");
        NotEnded x = helped("y:i=0?p*9-100", 50, 60);
        for (int cost : new int[] {0, -1, 51, Integer.MIN_VALUE, Integer.MAX_VALUE}) {
            Bench.due("cost " + cost, x.act(0, 0, 60, cost), Bench.NONE);
            Bench.due("cost " + cost, x.act(0, 1, 1, cost), Bench.NONE);
        }
        Bench.due("none came", x.help(0, 0, 0, 0), Bench.NONE);
        Bench.due("the most", x.act(0, 0, 60, 50), 0);
        Bench.due("costs so much", x.help(0, 0, 0, 1), 50);
        Bench.due("the least", x.act(0, 0, 60, 1), 1);
        Bench.due("costs so little", x.help(0, 0, 0, 1), 1);
        NotEnded all = helped("y:i=0?p*9-100", 50, 60);
        for (int i = 0; i < 6; i++) {
            all.act(0, 0, 10, 50);
        }
        Bench.due("six at the most", all.help(0, 0, 0, 1), 300);
    }

    private static void actsAtTheEdge() {
        Bench.sentence("kind 0: x given back (0 .. 99); 1: HOUSE x (0 .. 3); 2: PERSON x, another one");
        NotEnded x = helped("y:0", 50, 50);
        x.person(50, 50, 0, true);
        x.person(50, 50, 0, false);
        int[][] bad = {{0, -1}, {0, 100}, {1, -1}, {1, 4}, {2, -1}, {2, 0}, {2, 3}, {-1, 1}, {3, 1},
            {0, Integer.MIN_VALUE}, {0, Integer.MAX_VALUE}, {1, Integer.MIN_VALUE}, {1, Integer.MAX_VALUE},
            {2, Integer.MIN_VALUE}, {2, Integer.MAX_VALUE}, {Integer.MIN_VALUE, 1}, {Integer.MAX_VALUE, 1}};
        for (int[] b : bad) {
            Bench.due("kind " + b[0] + " of " + b[1], x.act(0, b[0], b[1], 1), Bench.NONE);
        }
        Bench.due("for a sent one", x.act(1, 0, 1, 1), Bench.NONE);
        Bench.due("for no such one", x.act(3, 0, 1, 1), Bench.NONE);
        Bench.due("for no such one", x.act(-1, 0, 1, 1), Bench.NONE);
        Bench.due("none", x.count(5), 0);
        int[][] good = {{0, 0}, {0, 99}, {1, 0}, {1, 3}, {2, 1}, {2, 2}};
        for (int i = 0; i < good.length; i++) {
            Bench.due("kind " + good[i][0] + " of " + good[i][1], x.act(0, good[i][0], good[i][1], 1), i);
        }
    }

    private static void noHelpNeeded() {
        Bench.sentence("the set by which it has GIVEN UP: none of its ACTS, if it does so without");
        NotEnded x = helped("y:0", 19, 0);
        x.person(20, 0, 1, false);
        x.person(19, 0, 2, true);
        x.person(20, 0, 3, true);
        Bench.due("19", x.help(0, 0, 0, 0), 0);
        Bench.due("19 costs nothing", x.help(0, 0, 0, 1), 0);
        Bench.due("20", x.help(0, 0, 1, 0), Bench.NONE);
        Bench.due("20", x.help(0, 0, 1, 1), Bench.NONE);
        Bench.due("a sent one with 19", x.help(0, 0, 2, 0), 0);
        Bench.due("a sent one with 20", x.help(0, 0, 3, 0), Bench.NONE);
        x.act(0, 0, 0, 1);
        Bench.due("an act that it does not need", x.help(0, 0, 0, 0), 0);
        NotEnded end = helped("y:0-1", 67, 0);
        end.person(68, 0, 1, false);
        Bench.due("67 less 48", end.help(0, 0, 0, 0), 0);
        Bench.due("68 less 48", end.help(0, 0, 1, 0), Bench.NONE);
    }

    private static void noneHelps() {
        Bench.sentence("NONE: none helps");
        NotEnded x = helped("y:0", 20, 50);
        x.person(100, 0, 0, false);
        x.act(0, 0, 99, 1);
        x.act(0, 1, 3, 1);
        x.act(0, 2, 1, 1);
        Bench.due("none", x.help(0, 0, 0, 0), Bench.NONE);
        Bench.due("none", x.help(0, 0, 0, 1), Bench.NONE);
        Bench.due("one without acts", x.help(0, 0, 1, 0), Bench.NONE);
    }

    private static void givenBack() {
        Bench.sentence("0 so much of its PUT IN is given back (0 .. 99)");
        // it gives up if it has put in less than 10
        for (int back : new int[] {0, 1, 40, 41, 50, 51, 99}) {
            NotEnded x = helped("y:p<10?0-100", 50, 50);
            x.act(0, 0, back, 3);
            Bench.due("given back " + back, x.help(0, 0, 0, 0), back >= 41 ? 1 : Bench.NONE);
        }
        NotEnded none = helped("y:p<0?0-100;y:0-p", 50, 0);
        none.act(0, 0, 99, 3);
        Bench.due("of nothing nothing is given back", none.help(0, 0, 0, 0), Bench.NONE);
        NotEnded two = helped("y:p<0?100;y:p=0?0-100", 50, 99);
        two.act(0, 0, 99, 9);
        two.act(0, 0, 98, 2);
        two.act(0, 0, 50, 2);
        Bench.due("several are given back, down to nothing", two.help(0, 0, 0, 0), 2 + 4);
        Bench.due("it is as told again", two.run(0, 0, 48, 0, 0), 50);
    }

    private static void anotherHouse() {
        Bench.sentence("1 it is in another HOUSE (0 .. 3) from the beginning");
        for (int house = 0; house < 4; house++) {
            for (int near = 0; near < 4; near++) {
                NotEnded x = Bench.withLaws("y:i=0&s=1?0-100");
                x.person(50, 0, 3 - near, false);
                x.person(50, 0, near, true);
                x.act(0, 1, house, 2);
                int want = house == near ? 1 : Bench.NONE;
                Bench.due("house " + house + ", one is near in " + near, x.help(0, 0, 0, 0), want);
                Bench.due("it is in its own again", x.run(0, 0, 0, 0, 1), 3 - near);
            }
        }
        NotEnded own = Bench.withLaws("y:i=0&s=1?0-100");
        own.person(50, 0, 1, false);
        own.person(50, 0, 1, true);
        own.act(0, 1, 1, 5);
        own.act(0, 1, 0, 5);
        Bench.due("it is there already", own.help(0, 0, 0, 0), 0);
    }

    private static void theLastToldHouse() {
        Bench.sentence("of several such the last told one");
        NotEnded x = Bench.withLaws("y:s=1&p=0?0-100");
        x.person(50, 30, 0, false);
        x.person(50, 0, 2, true);
        x.act(0, 1, 2, 1);
        x.act(0, 0, 15, 1);
        x.act(0, 1, 3, 1);
        x.act(0, 0, 15, 1);
        Bench.due("the first house with what is given back", x.help(0, 0, 0, 0), 1 + 2 + 8);
        NotEnded z = Bench.withLaws("y:n=0?0-100");
        z.person(50, 0, 0, false);
        for (int house = 0; house < 3; house++) {
            z.person(50, 0, house, true);
        }
        z.act(0, 1, 3, 50);
        z.act(0, 1, 1, 1);
        z.act(0, 1, 2, 1);
        Bench.due("only the empty house", z.help(0, 0, 0, 0), 1);
        Bench.due("at its cost", z.help(0, 0, 0, 1), 50);
    }

    private static void notThereAtAll() {
        Bench.sentence("2 somebody (a PERSON) is not there at all");
        NotEnded x = Bench.withLaws("y:n+s>0?0;y:0-9", "y:0-1;x:2");
        x.person(50, 0, 0, false);
        x.person(100, 0, 0, true);
        x.person(100, 0, 0, false);
        x.person(100, 0, 1, false);
        x.know(0, 3);
        x.act(0, 2, 1, 7);
        x.act(0, 2, 2, 8);
        x.act(0, 2, 3, 9);
        Bench.due("both that are near", x.help(0, 0, 0, 0), 3);
        Bench.due("at the cost of both", x.help(0, 0, 0, 1), 15);
        Bench.due("the one that tells", x.help(1, 0, 0, 0), 4);
        Bench.due("they are there again", x.run(0, 0, 48, 0, 0), 50);
        NotEnded twice = Bench.withLaws("y:n=0?0-9");
        twice.person(50, 0, 0, false);
        twice.person(50, 0, 0, false);
        twice.act(0, 2, 1, 7);
        twice.act(0, 2, 1, 6);
        Bench.due("the same one twice: the cheaper act", twice.help(0, 0, 0, 0), 2);
        for (long seed = 0; seed < 20; seed++) {
            NotEnded draws = Bench.withLaws("g:p;y:n=0?0-1");
            draws.person(99, 0, 1, false);
            draws.person(50, 10, 0, false);
            draws.person(0, 0, 0, true);
            draws.act(1, 2, 0, 1);
            boolean gone = draws.without(0, seed, 1, 1) < 20;
            boolean without = draws.run(0, seed, 48, 1, 0) < 20;
            int want = without ? 0 : gone ? 1 : Bench.NONE;
            Bench.due("who is not there draws nothing, seed " + seed, draws.help(0, seed, 1, 0), want);
        }
    }

    private static void itsOwnActs() {
        Bench.sentence("the set of its ACTS");
        NotEnded x = helped("y:p=0?0-100", 50, 5);
        x.person(50, 5, 1, false);
        x.act(1, 0, 5, 1);
        Bench.due("not those of another one", x.help(0, 0, 0, 0), Bench.NONE);
        Bench.due("its own", x.help(0, 0, 1, 0), 1);
        x.act(0, 0, 5, 9);
        Bench.due("its own, by its number", x.help(0, 0, 0, 0), 2);
        Bench.due("its own cost", x.help(0, 0, 0, 1), 9);
        NotEnded z = helped("y:p=0?0-100", 50, 5);
        z.person(50, 5, 1, false);
        z.act(0, 0, 5, 1);
        Bench.due("not those of one before it", z.help(0, 0, 1, 0), Bench.NONE);
    }

    private static void eachKindAlone() {
        Bench.sentence("an ACT of one kind does what this kind does, and no more");
        // what is given back, the house and the person are all 3, but only one kind each gives up
        String[] laws = {"y:p=6?0-100", "y:s=1?0-100", "y:n=0?0-100"};
        for (int kind = 0; kind <= 2; kind++) {
            NotEnded x = Bench.withLaws(laws);
            x.person(50, 9, 0, false);
            x.person(50, 0, 3, true);
            x.person(50, 0, 3, false);
            x.person(50, 0, 0, false);
            x.act(0, kind, 3, 4);
            for (int law = 0; law <= 2; law++) {
                String what = "kind " + kind + " by law " + law;
                Bench.due(what, x.help(law, 0, 0, 0), law == kind ? 1 : Bench.NONE);
            }
        }
    }

    private static void theLeastCost() {
        Bench.sentence("The LEAST: the set of its ACTS with the least COST");
        NotEnded x = helped("y:p<10?0-100", 50, 39);
        x.act(0, 0, 30, 12);
        Bench.due("one", x.help(0, 0, 0, 1), 12);
        x.act(0, 0, 10, 4);
        x.act(0, 0, 10, 4);
        x.act(0, 0, 10, 3);
        Bench.due("three that cost less than one", x.help(0, 0, 0, 0), 2 + 4 + 8);
        Bench.due("11, not 12", x.help(0, 0, 0, 1), 11);
        x.act(0, 0, 31, 11);
        Bench.due("one at the same cost", x.help(0, 0, 0, 0), 16);
        x.act(0, 0, 99, 10);
        Bench.due("one that costs less", x.help(0, 0, 0, 0), 32);
    }

    private static void theFewest() {
        Bench.sentence("of several the fewest");
        NotEnded x = helped("y:p<10?0-100", 50, 39);
        x.act(0, 0, 10, 2);
        x.act(0, 0, 10, 2);
        x.act(0, 0, 10, 2);
        x.act(0, 0, 20, 4);
        Bench.due("two, not three", x.help(0, 0, 0, 0), 1 + 8);
        x.act(0, 0, 30, 6);
        Bench.due("one, not two", x.help(0, 0, 0, 0), 16);
    }

    private static void theLowerAct() {
        Bench.sentence("then that with the lower ACT where two first differ");
        NotEnded x = helped("y:p<10?0-100", 50, 39);
        for (int i = 0; i < 6; i++) {
            x.act(0, 0, 15, 5);
        }
        Bench.due("the first two of six", x.help(0, 0, 0, 0), 3);
        NotEnded one = helped("y:p<10?0-100", 50, 39);
        one.act(0, 0, 5, 5);
        for (int i = 1; i < 6; i++) {
            one.act(0, 0, 30, 5);
        }
        Bench.due("the first that helps", one.help(0, 0, 0, 0), 2);
        // 0 with 5 and 1 with 2: the higher bits are those of the set with the lower act
        NotEnded far = helped("y:p<10?0-100", 50, 39);
        int[] back = {20, 15, 15, 0, 0, 10};
        int[] cost = {6, 5, 5, 1, 1, 4};
        for (int i = 0; i < 6; i++) {
            far.act(0, 0, back[i], cost[i]);
        }
        Bench.due("0 with 5, not 1 with 2", far.help(0, 0, 0, 0), 1 + 32);
        NotEnded second = helped("y:p<10?0-100", 50, 39);
        int[] backs = {15, 5, 25, 15, 15, 25};
        int[] costs = {5, 1, 9, 5, 5, 9};
        for (int i = 0; i < 6; i++) {
            second.act(0, 0, backs[i], costs[i]);
        }
        // 10 is the least: 0 with 3, 0 with 4, 3 with 4, 1 with 2, 1 with 5
        Bench.due("0 with 3, not 0 with 4", second.help(0, 0, 0, 0), 1 + 8);
    }

    private static void lookersOfNone() {
        Bench.sentence("LOOKERS: of the SENT ones the largest set, none where there are none");
        NotEnded x = Bench.withLaws("y:s");
        Bench.due("nobody", x.lookers(0, 0), 0);
        x.person(40, 0, 0, false);
        Bench.due("nobody is sent", x.lookers(0, 0), 0);
        x.person(40, 0, 0, true);
        Bench.due("the only one makes it", x.lookers(0, 0), 0);
        x.person(40, 0, 1, true);
        Bench.due("one elsewhere does not", x.lookers(0, 0), 4);
        NotEnded sent = Bench.withLaws("y:s");
        sent.person(100, 0, 0, true);
        Bench.due("sent ones alone", sent.lookers(0, 0), 1);
    }

    private static void lookersAtFifty() {
        Bench.sentence("just those HOLD 50 or more at the end (not SENT) who do without any");
        int[] held = {50, 51, 98, 99, 49, 1, 2};
        boolean[] down = {false, false, true, true, true, true, true};
        boolean[] up = {true, true, true, true, false, true, false};
        for (int i = 0; i < held.length; i++) {
            NotEnded x = Bench.withLaws("y:s*[0-1]", "y:s");
            x.person(held[i], 0, 0, false);
            x.person(0, 0, 0, true);
            // 48 less: 98 stays at 50, 49 was below before; 48 more: 2 comes to 50, 1 to 49
            Bench.due(held[i] + " less by 48", x.lookers(0, 0), down[i] ? 2 : 0);
            Bench.due(held[i] + " more by 48", x.lookers(1, 0), up[i] ? 2 : 0);
        }
        NotEnded swap = Bench.withLaws("y:s>0&v=60?0-60;y:s>0&v=40?60");
        swap.person(60, 0, 0, false);
        swap.person(40, 0, 0, false);
        swap.person(0, 0, 0, true);
        Bench.due("as many, but others", swap.lookers(0, 0), 0);
    }

    private static void theLargestSet() {
        Bench.sentence("the largest set that could be there (the others of them not)");
        NotEnded x = Bench.withLaws("y:s=1?0-9", "y:s=2?0-9", "y:s>0&s<3?0-9", "y:s=3?0-9", "y:s>0?0-9", "y:0");
        x.person(60, 0, 0, false);
        x.person(0, 0, 0, true);
        x.person(0, 0, 0, true);
        x.person(0, 0, 0, true);
        int[] want = {14, 14, 14, 6, 0, 14};
        for (int law = 0; law < 6; law++) {
            Bench.due("law " + law, x.lookers(law, 0), want[law]);
        }
    }

    private static void theLowerPerson() {
        Bench.sentence("of several that with the lower PERSON where two first differ");
        NotEnded x = Bench.withLaws("y:s=3?0-9", "y:s>1?0-9", "y:m>65?0-9");
        x.person(60, 0, 0, false);
        x.person(100, 0, 0, true);
        x.person(30, 0, 0, true);
        x.person(90, 0, 0, true);
        Bench.due("two of three", x.lookers(0, 0), 2 + 4);
        Bench.due("one of three", x.lookers(1, 0), 2);
        // all: 73; 1 and 2: 65; 1 and 3: 95; 2 and 3: 60
        Bench.due("the lower two", x.lookers(2, 0), 2 + 4);
        NotEnded z = Bench.withLaws("y:m>50?0-9");
        int[] held = {90, 80, 80, 0};
        z.person(60, 0, 0, false);
        for (int h : held) {
            z.person(h, 0, 0, true);
        }
        // three: 83, 56, 56, 53; two: 1 and 4 have 45, 2 and 4 or 3 and 4 have 40, the others more
        Bench.due("1 and 4, not 2 and 3", z.lookers(0, 0), 2 + 16);
    }

    private static void lookersAtTheMost() {
        Bench.sentence("LOOKERS of as many as there may be");
        NotEnded x = Bench.withLaws("y:0", "y:s>8?0-9", "y:s>0?0-9", "y:s=9?0;y:s>0?0-9");
        x.person(60, 0, 0, false);
        for (int j = 1; j < 10; j++) {
            x.person(0, 0, 0, true);
        }
        int[] want = {1022, 510, 0, 1022};
        for (int law = 0; law < 4; law++) {
            Bench.due("law " + law, x.lookers(law, 0), want[law]);
        }
        NotEnded all = Bench.withLaws("y:1");
        for (int j = 0; j < 10; j++) {
            all.person(0, 0, 0, true);
        }
        Bench.due("all ten are sent", all.lookers(0, 0), 1023);
    }
}
