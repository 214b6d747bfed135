/** The edges of a run: what is cut, who tells and is told, what is drawn, and what is asked behind it. */
public final class NotEndedEdgesOfRuns {
    private static final long[] SEEDS = {0, 1, -1, 7, 99, Long.MAX_VALUE, Long.MIN_VALUE, Integer.MIN_VALUE,
        1L << 32, 6364136223846793005L, -1442695040888963407L, 123456789012345L};

    public static void main(String[] args) {
        nobody();
        soManyHours();
        fromWhatWasTold();
        byWhatWasSoAsItBegan();
        moreByY();
        cutBeforeItTells();
        fiftyOrMoreThen();
        sentOnesNeverChange();
        sentOnesDoNotTell();
        whomItKnows();
        notInItsHouse();
        theSumOfThese();
        sumCutOnce();
        xAsTheHourBegan();
        whatIsDrawn();
        chancesAtTheEdge();
        personByPerson();
        whoDraws();
        goesRound();
        lettersAsTheHourBegan();
        homeForGood();
        place();
        told();
        left();
        givenUp();
        withoutSome();
        withoutTheyDrawNothing();
        did();
        leanOnPutIn();
        leanOnThoseNear();
        fortyEightHours();
        Bench.close();
    }

    private static void nobody() {
        Bench.sentence("A RUN of nobody");
        NotEnded x = Bench.withLaws("y:1;g:100;x:1");
        for (int hours = 0; hours <= 48; hours += 48) {
            Bench.due("left", x.all(0, 0, hours, 0), 0);
            Bench.due("given up", x.all(0, 0, hours, 1), 0);
        }
        Bench.refused("run of nobody", () -> Bench.withLaws("y:1"), z -> z.run(0, 0, 0, 0, 0), Bench.HIDDEN);
    }

    private static void soManyHours() {
        Bench.sentence("A RUN of so many HOURS (0 .. 48)");
        NotEnded x = Bench.withLaws("y:1", "y:i=0?50;y:i=47?1");
        x.person(10, 0, 0, false);
        for (int hours = 0; hours <= 48; hours++) {
            Bench.due("behind " + hours, x.run(0, 0, hours, 0, 0), 10 + hours);
            Bench.due("first and last hour", x.run(1, 0, hours, 0, 0), hours == 0 ? 10 : hours == 48 ? 61 : 60);
        }
        for (int hours : new int[] {-1, 49, Integer.MIN_VALUE, Integer.MAX_VALUE}) {
            Bench.due("refused", x.run(0, 0, hours, 0, 0), Bench.HIDDEN);
            Bench.due("refused", x.all(0, 0, hours, 0), Bench.NONE);
        }
    }

    private static void fromWhatWasTold() {
        Bench.sentence("from what was told");
        NotEnded x = Bench.withLaws("y:0-3;g:40;x:5");
        x.person(90, 0, 0, false);
        x.person(60, 0, 1, false);
        x.know(0, 1);
        int first = x.run(0, 5, 9, 1, 0);
        x.run(0, 6, 48, 0, 0);
        x.all(0, 7, 30, 1);
        Bench.due("the same again", x.run(0, 5, 9, 1, 0), first);
        Bench.due("as told", x.run(0, 5, 0, 1, 0), 60);
        x.person(100, 0, 2, false);
        x.know(2, 1);
        Bench.due("one more told: one more tells it", x.run(0, 5, 1, 1, 0), 60 - 3 + 5 + 5);
    }

    private static void byWhatWasSoAsItBegan() {
        Bench.sentence("all by what was so as it began");
        NotEnded x = Bench.withLaws("y:m-v", "y:n*10;g:100");
        x.person(10, 0, 0, false);
        x.person(90, 0, 0, false);
        Bench.due("the first takes what the second held", x.run(0, 0, 1, 0, 0), 90);
        Bench.due("the second what the first held", x.run(0, 0, 1, 1, 0), 10);
        Bench.due("both back", x.run(0, 0, 2, 0, 0), 10);
        Bench.due("who goes home was near as it began", x.run(1, 0, 1, 1, 0), 100);
        Bench.due("and not later", x.run(1, 0, 2, 0, 0), 20);
    }

    private static void moreByY() {
        Bench.sentence("HOLDS becomes more by y, within 0 .. 100");
        int[][] cases = {{60, 40, 100}, {60, 41, 100}, {60, 39, 99}, {100, 1, 100}, {0, 100, 100}, {0, 101, 100},
            {100, 9999, 100}, {0, 0, 0}, {100, 0, 100}};
        for (int[] c : cases) {
            NotEnded x = Bench.withLaws("y:" + c[1], "y:0-" + c[1]);
            x.person(c[0], 0, 0, false);
            x.person(100 - c[0], 0, 1, false);
            Bench.due(c[0] + " more by " + c[1], x.run(0, 0, 1, 0, 0), c[2]);
            Bench.due(100 - c[0] + " less by " + c[1], x.run(1, 0, 1, 1, 0), 100 - c[2]);
        }
        NotEnded most = Bench.withLaws("y:9999*9999", "y:0-9999*9999");
        most.person(50, 0, 0, false);
        Bench.due("more by a million each hour", most.run(0, 0, 48, 0, 0), 100);
        Bench.due("less by a million each hour", most.run(1, 0, 48, 0, 0), 0);
    }

    private static void cutBeforeItTells() {
        Bench.sentence("within 0 .. 100; the sum comes behind, within 0 .. 100 again");
        NotEnded x = Bench.withLaws("y:i=0?p;x:0-10", "y:i=0&p>0?0-90;x:10");
        x.person(60, 90, 0, false);
        x.person(60, 0, 1, false);
        x.know(0, 1);
        Bench.due("100, then less by 10", x.run(0, 0, 1, 0, 0), 90);
        Bench.due("0, then more by 10", x.run(1, 0, 1, 0, 0), 10);
    }

    private static void fiftyOrMoreThen() {
        Bench.sentence("if it HOLDS 50 or more then, it TELLS");
        int[][] cases = {{49, 0, 0}, {50, 0, 1}, {51, 0, 1}, {49, 1, 1}, {48, 1, 0}, {0, 50, 1}, {0, 49, 0}};
        for (int[] c : cases) {
            NotEnded x = Bench.withLaws("y:p;x:7", "y:0-p;x:7");
            x.person(c[0], c[1], 0, false);
            x.person(100 - c[0], c[1], 0, false);
            x.person(20, 0, 1, false);
            x.person(20, 0, 1, false);
            x.know(0, 2);
            x.know(1, 3);
            Bench.due(c[0] + " and more by " + c[1], x.run(0, 0, 1, 2, 0), 20 + c[2] * 7);
            int then = 100 - c[0] - c[1];
            Bench.due("less by " + c[1], x.run(1, 0, 1, 3, 0), then >= 50 ? 27 : 20);
        }
    }

    private static void sentOnesNeverChange() {
        Bench.sentence("what a SENT one HOLDS never changes, and it never goes");
        NotEnded x = Bench.withLaws("y:10;g:100;x:10", "y:0-10;g:100;x:0-10");
        x.person(50, 50, 0, true);
        x.person(100, 0, 1, false);
        x.person(0, 0, 2, true);
        x.person(100, 0, 3, true);
        for (int j : new int[] {0, 2, 3}) {
            x.know(1, j);
        }
        int[] held = {50, 0, 0, 100};
        for (int law = 0; law < 2; law++) {
            for (int hours = 0; hours <= 48; hours += 12) {
                for (int j : new int[] {0, 2, 3}) {
                    Bench.due("held by a sent one", x.run(law, 9, hours, j, 0), held[j]);
                    Bench.due("place of a sent one", x.run(law, 9, hours, j, 1), j);
                    Bench.due("a sent one tells", x.run(law, 9, hours, j, 2), Bench.NONE);
                }
            }
            Bench.due("only the other one goes", x.all(law, 9, 48, 0), 1);
        }
    }

    private static void sentOnesDoNotTell() {
        Bench.sentence("a PERSON (not SENT) TELLS");
        NotEnded x = Bench.withLaws("x:5");
        x.person(100, 0, 0, true);
        x.person(10, 0, 1, false);
        x.know(0, 1);
        Bench.due("a sent one that holds 100", x.run(0, 0, 48, 1, 0), 10);
        Bench.due("its house is in no book", x.books(0, 0, 0), 0);
    }

    private static void whomItKnows() {
        Bench.sentence("whom it KNOWS (others, as bits; none at first): each that it KNOWS");
        NotEnded x = Bench.withLaws("x:5");
        for (int j = 0; j < 10; j++) {
            x.person(j == 4 ? 60 : 0, 0, j % 4, false);
        }
        for (int j = 0; j < 10; j++) {
            Bench.due("nobody knows anybody", x.run(0, 0, 1, j, 0), j == 4 ? 60 : 0);
        }
        x.know(4, 9);
        x.know(3, 4);
        x.know(9, 3);
        for (int j = 0; j < 10; j++) {
            Bench.due("told " + j, x.run(0, 0, 1, j, 0), j == 4 ? 60 : j == 9 || j == 3 ? 5 : 0);
        }
        for (int j = 0; j < 10; j++) {
            Bench.due("know " + j, x.know(j, 4), j != 4);
        }
        for (int j = 0; j < 10; j++) {
            // 0 and 8 are in the house of 4
            Bench.due("told " + j, x.run(0, 0, 1, j, 0), j == 4 ? 60 : j % 4 == 0 ? 0 : 5);
        }
    }

    private static void notInItsHouse() {
        Bench.sentence("not in its HOUSE as the HOUR began");
        NotEnded x = Bench.withLaws("x:5", "x:5;g:v=60?100", "x:5;g:v=10?100", "x:5;g:100");
        x.person(60, 0, 2, false);
        x.person(10, 0, 2, false);
        x.know(0, 1);
        Bench.due("near all the time", x.run(0, 0, 48, 1, 0), 10);
        for (int law = 1; law <= 3; law++) {
            Bench.due("near as it began, law " + law, x.run(law, 0, 1, 1, 0), 10);
            Bench.due("not near any more, law " + law, x.run(law, 0, 2, 1, 0), 15);
        }
    }

    private static void theSumOfThese() {
        Bench.sentence("the sum of these of all who tell it comes behind, within 0 .. 100 again");
        int[][] cases = {{10, 10, 20, 40}, {40, 40, 20, 100}, {40, 41, 20, 100}, {40, 39, 20, 99}, {99, 99, 1, 100}};
        for (int[] c : cases) {
            NotEnded x = Bench.withLaws("x:p", "x:0-p");
            x.person(50, c[0], 0, false);
            x.person(50, c[1], 1, false);
            x.person(c[2], 0, 2, false);
            x.person(100 - c[2], 0, 2, false);
            for (int j = 0; j < 4; j++) {
                x.know(j % 2, 2 + j / 2);
            }
            Bench.due("more", x.run(0, 0, 1, 2, 0), c[3]);
            Bench.due("less", x.run(1, 0, 1, 3, 0), 100 - c[3]);
        }
        NotEnded many = Bench.withLaws("x:9999*9999", "x:0-9999*9999");
        for (int j = 0; j < 10; j++) {
            many.person(50, 0, j == 9 ? 1 : 0, false);
        }
        for (int j = 0; j < 9; j++) {
            many.know(j, 9);
        }
        Bench.due("nine millions more", many.run(0, 0, 1, 9, 0), 100);
        Bench.due("nine millions less", many.run(1, 0, 1, 9, 0), 0);
    }

    private static void sumCutOnce() {
        Bench.sentence("the sum is cut, not what each one adds");
        NotEnded x = Bench.withLaws("x:p-50");
        x.person(50, 99, 0, false);
        x.person(50, 2, 1, false);
        x.person(80, 50, 2, false);
        x.person(20, 50, 2, false);
        for (int j = 0; j < 4; j++) {
            x.know(j % 2, 2 + j / 2);
        }
        Bench.due("80 and 49 and -48", x.run(0, 0, 1, 2, 0), 81);
        Bench.due("20 and 49 and -48", x.run(0, 0, 1, 3, 0), 21);
        NotEnded z = Bench.withLaws("x:p-50");
        z.person(50, 2, 0, false);
        z.person(50, 99, 1, false);
        z.person(20, 50, 2, false);
        z.know(0, 2);
        z.know(1, 2);
        Bench.due("20 and -48 and 49", z.run(0, 0, 1, 2, 0), 21);
    }

    private static void xAsTheHourBegan() {
        Bench.sentence("HOLDS more by its x, by what was so as the HOUR began");
        NotEnded x = Bench.withLaws("y:i=0?20;x:v/10");
        x.person(40, 0, 0, false);
        x.person(0, 0, 1, false);
        x.know(0, 1);
        Bench.due("it holds 60 and tells by the 40 it held", x.run(0, 0, 1, 1, 0), 20 + 4);
        Bench.due("then by 60", x.run(0, 0, 2, 1, 0), 20 + 4 + 6);
    }

    private static void whatIsDrawn() {
        Bench.sentence("if (x shifted right by 33, without sign) modulo 100 is below WORTH of g, it goes HOME");
        for (long seed : SEEDS) {
            int drawn = Bench.drawn(seed, 0);
            NotEnded x = Bench.withLaws("g:" + drawn, "g:" + (drawn + 1));
            x.person(0, 0, 3, false);
            Bench.due("g just what is drawn, seed " + seed, x.run(0, seed, 1, 0, 1), 3);
            Bench.due("g one above it, seed " + seed, x.run(1, seed, 1, 0, 1), Bench.NONE);
        }
    }

    private static void chancesAtTheEdge() {
        Bench.sentence("below WORTH of g: 0 or less nobody, 100 or more everybody");
        NotEnded x = Bench.withLaws("g:0", "g:0-1", "g:0-9999*9999", "g:100", "g:101", "g:9999*9999");
        x.person(0, 0, 0, false);
        for (long seed = -20; seed < 20; seed++) {
            for (int law = 0; law < 3; law++) {
                Bench.due("stays by law " + law, x.run(law, seed, 48, 0, 1), 0);
            }
            for (int law = 3; law < 6; law++) {
                Bench.due("goes by law " + law, x.run(law, seed, 1, 0, 1), Bench.NONE);
            }
        }
        NotEnded edge = Bench.withLaws("g:1", "g:99");
        edge.person(0, 0, 0, false);
        int lowest = 0;
        int highest = 0;
        for (long seed = 0; seed < 2000; seed++) {
            int drawn = Bench.drawn(seed, 0);
            if (drawn == 0 && lowest < 5) {
                lowest++;
                Bench.due("0 is below 1", edge.run(0, seed, 1, 0, 1), Bench.NONE);
            }
            if (drawn == 99 && highest < 5) {
                highest++;
                Bench.due("99 is not below 99", edge.run(1, seed, 1, 0, 1), 0);
            }
        }
        Bench.due("both were drawn", Math.min(lowest, highest), 5);
    }

    private static void personByPerson() {
        Bench.sentence("Then, PERSON by PERSON: x, at first the seed, becomes the next");
        for (long seed : SEEDS) {
            NotEnded x = Bench.withLaws("g:50");
            boolean[] home = new boolean[10];
            for (int j = 0; j < 10; j++) {
                x.person(0, 0, j % 4, false);
            }
            int nth = 0;
            for (int hour = 0; hour < 6; hour++) {
                for (int j = 0; j < 10; j++) {
                    if (!home[j]) {
                        home[j] = Bench.drawn(seed, nth) < 50;
                        nth++;
                    }
                }
                for (int j = 0; j < 10; j++) {
                    int want = home[j] ? Bench.NONE : j % 4;
                    Bench.due("seed " + seed + " hour " + hour, x.run(0, seed, hour + 1, j, 1), want);
                }
            }
        }
    }

    private static void whoDraws() {
        Bench.sentence("each in a HOUSE and not SENT draws");
        for (long seed : SEEDS) {
            NotEnded x = Bench.withLaws("g:p");
            x.person(0, 99, 0, true);
            x.person(0, Bench.drawn(seed, 0), 0, false);
            x.person(0, 99, 0, true);
            int drawn = Bench.drawn(seed, 1);
            x.person(0, drawn < 99 ? drawn + 1 : 99, 0, false);
            Bench.due("the first that draws stays", x.run(0, seed, 1, 1, 1), 0);
            Bench.due("the second goes", x.run(0, seed, 1, 3, 1), drawn < 99 ? Bench.NONE : 0);
        }
        Bench.sentence("whoever is HOME draws nothing");
        for (long seed : SEEDS) {
            int third = Bench.drawn(seed, 2);
            NotEnded x = Bench.withLaws("g:n=0&i=0?100;g:i=1?" + third, "g:n=0&i=0?100;g:i=1?" + (third + 1));
            x.person(0, 0, 0, false);
            x.person(0, 0, 1, false);
            x.person(0, 0, 1, true);
            // the first goes in the first hour, so the second draws the third number in the second hour
            Bench.due("stays, seed " + seed, x.run(0, seed, 2, 1, 1), 1);
            Bench.due("goes, seed " + seed, x.run(1, seed, 2, 1, 1), Bench.NONE);
        }
    }

    private static void goesRound() {
        Bench.sentence("64 bits, going round; shifted right without sign");
        // with this seed x becomes 0, with that one -1, the largest that there is without sign
        long inverse = 1;
        for (int i = 0; i < 64; i++) {
            inverse *= 2 - 6364136223846793005L * inverse;
        }
        long toZero = -1442695040888963407L * inverse;
        long toMost = (-1L - 1442695040888963407L) * inverse;
        long toSign = (Long.MIN_VALUE - 1442695040888963407L) * inverse;
        long toOne = ((1L << 33) - 1442695040888963407L) * inverse;
        long justBelow = ((1L << 33) - 1 - 1442695040888963407L) * inverse;
        long[] seeds = {toZero, toMost, toSign, toOne, justBelow};
        // 0; 2^31 - 1; 2^30; 1; 0, each modulo 100
        int[] drawn = {0, 47, 24, 1, 0};
        for (int i = 0; i < seeds.length; i++) {
            NotEnded x = Bench.withLaws("g:" + drawn[i], "g:" + (drawn[i] + 1));
            x.person(0, 0, 0, false);
            Bench.due("stays " + i, x.run(0, seeds[i], 1, 0, 1), 0);
            Bench.due("goes " + i, x.run(1, seeds[i], 1, 0, 1), Bench.NONE);
        }
    }

    private static void lettersAsTheHourBegan() {
        Bench.sentence("below WORTH of g (by the letters as the HOUR began)");
        NotEnded x = Bench.withLaws("y:10;g:v>59?100", "g:n=1?100", "g:m=30?100;y:1");
        x.person(50, 0, 0, false);
        x.person(30, 0, 0, false);
        Bench.due("60 behind an hour, 50 as it began", x.run(0, 0, 1, 0, 1), 0);
        Bench.due("60 as it began", x.run(0, 0, 2, 0, 1), Bench.NONE);
        Bench.due("one was near, though it has just gone", x.all(1, 0, 1, 0), 2);
        Bench.due("what the other held", x.run(2, 0, 1, 0, 1), Bench.NONE);
    }

    private static void homeForGood() {
        Bench.sentence("it is in no HOUSE from then on");
        NotEnded x = Bench.withLaws("g:i=0?100", "g:i=47?100");
        x.person(0, 0, 0, false);
        for (int hours = 0; hours <= 48; hours++) {
            Bench.due("home from the first hour", x.run(0, 0, hours, 0, 1), hours == 0 ? 0 : Bench.NONE);
            Bench.due("home by the last hour", x.run(1, 0, hours, 0, 1), hours < 48 ? 0 : Bench.NONE);
        }
    }

    private static void place() {
        Bench.sentence("PLACE (HOUSE; NONE: HOME)");
        NotEnded x = Bench.withLaws("g:v");
        for (int house = 0; house < 4; house++) {
            x.person(house == 2 ? 100 : 0, 0, house, false);
        }
        for (int house = 0; house < 4; house++) {
            Bench.due("house " + house, x.run(0, 0, 0, house, 1), house);
            Bench.due("house " + house, x.run(0, 0, 48, house, 1), house == 2 ? Bench.NONE : house);
        }
    }

    private static void told() {
        Bench.sentence("TOLD: the first HOUR at whose end it TELLS (NONE: never); it may HOLD less later");
        NotEnded x = Bench.withLaws("y:i=0?v/49;y:i=1?0-50", "y:1", "y:i=47?1", "y:0-1", "x:5");
        x.person(49, 0, 0, false);
        x.person(50, 0, 0, false);
        x.person(48, 0, 1, false);
        Bench.due("behind no hour", x.run(0, 0, 0, 1, 2), Bench.NONE);
        Bench.due("at the first", x.run(0, 0, 1, 0, 2), 0);
        Bench.due("it holds less later", x.run(0, 0, 48, 0, 0), 0);
        Bench.due("since the first still", x.run(0, 0, 48, 0, 2), 0);
        Bench.due("49 and 1", x.run(1, 0, 48, 0, 2), 0);
        Bench.due("48 and 1", x.run(1, 0, 48, 2, 2), 1);
        Bench.due("48 and 1, behind one hour", x.run(1, 0, 1, 2, 2), Bench.NONE);
        Bench.due("at the last hour", x.run(2, 0, 48, 0, 2), 47);
        Bench.due("before the last hour", x.run(2, 0, 47, 0, 2), Bench.NONE);
        Bench.due("never", x.run(2, 0, 48, 2, 2), Bench.NONE);
        Bench.due("50 as told, 49 as it could tell", x.run(3, 0, 48, 1, 2), Bench.NONE);
        Bench.due("nobody to tell", x.run(4, 0, 1, 1, 2), 0);
        x.know(1, 2);
        Bench.due("told up to 50 or more", x.run(4, 0, 1, 2, 0), 53);
        Bench.due("that one TELLS an hour later", x.run(4, 0, 2, 2, 2), 1);
        Bench.due("not before", x.run(4, 0, 1, 2, 2), Bench.NONE);
    }

    private static void left() {
        Bench.sentence("LEFT: how many are HOME");
        NotEnded x = Bench.withLaws("g:100", "g:v>i*10-1?0;g:100");
        for (int j = 0; j < 10; j++) {
            Bench.due("all of " + j, x.all(0, 0, 48, 0), j);
            x.person(j, 0, j % 4, false);
            Bench.due("none behind no hour", x.all(0, 0, 0, 0), 0);
        }
        Bench.due("all ten", x.all(0, 0, 1, 0), 10);
        Bench.due("none in the first hour", x.all(1, 0, 1, 0), 0);
        Bench.due("all in the second", x.all(1, 0, 2, 0), 10);
        NotEnded sent = Bench.withLaws("g:100");
        for (int j = 0; j < 10; j++) {
            sent.person(0, 0, 0, true);
        }
        Bench.due("sent ones are not home", sent.all(0, 0, 48, 0), 0);
    }

    private static void givenUp() {
        Bench.sentence("GIVEN UP: who HOLDS less than 20 at the end");
        NotEnded x = Bench.withLaws("y:0", "y:1", "y:0-1");
        int[] held = {19, 20, 0, 100, 21, 18, 68, 67, 20, 19};
        for (int j = 0; j < 10; j++) {
            x.person(held[j], 0, j % 4, j >= 8);
        }
        Bench.due("behind no hour", x.all(0, 0, 0, 1), 1 + 4 + 32 + 512);
        Bench.due("behind all", x.all(0, 0, 48, 1), 1 + 4 + 32 + 512);
        Bench.due("one more each", x.all(1, 0, 1, 1), 4 + 32 + 512);
        Bench.due("one less each", x.all(2, 0, 1, 1), 1 + 2 + 4 + 32 + 512);
        Bench.due("48 less: 68 becomes 20, 67 becomes 19", x.all(2, 0, 48, 1), 1 + 2 + 4 + 16 + 32 + 128 + 512);
        NotEnded all = Bench.withLaws("y:0-100");
        for (int j = 0; j < 10; j++) {
            all.person(50, 0, 0, false);
        }
        Bench.due("all ten", all.all(0, 0, 48, 1), 1023);
        Bench.due("none of ten", all.all(0, 0, 0, 1), 0);
    }

    private static void withoutSome() {
        Bench.sentence("WITHOUT some PERSONS (bits): the RUN as if these had never been");
        NotEnded x = Bench.withLaws("y:i=0?n*10+s;x:i=0?1");
        for (int j = 0; j < 10; j++) {
            x.person(j == 9 ? 0 : 60, 0, j < 5 ? 0 : 1, j == 8);
        }
        for (int j = 0; j < 9; j++) {
            x.know(9, j);
        }
        // near the last: 5, 6, 7 and 8, which is sent; 0 to 4 tell it
        Bench.due("without nobody", x.without(0, 0, 0, 9), 40 + 1 + 5);
        Bench.due("as the run itself", x.run(0, 0, 48, 9, 0), 46);
        Bench.due("without one that tells", x.without(0, 0, 1, 9), 45);
        Bench.due("without one near", x.without(0, 0, 1 << 5, 9), 36);
        Bench.due("without the sent one", x.without(0, 0, 1 << 8, 9), 35);
        Bench.due("without all others", x.without(0, 0, 511, 9), 0);
        Bench.due("itself alone", x.without(0, 0, 512, 9), Bench.HIDDEN);
        Bench.due("itself among all", x.without(0, 0, 1023, 9), Bench.HIDDEN);
        Bench.due("no such one", x.without(0, 0, 1024, 9), Bench.HIDDEN);
        Bench.due("no such one", x.without(0, 0, 1 << 31, 9), Bench.HIDDEN);
        Bench.due("no such one", x.without(0, 0, 1 << 30, 9), Bench.HIDDEN);
        Bench.due("all bits", x.without(0, 0, -1, 9), Bench.HIDDEN);
        Bench.due("all bits but its own", x.without(0, 0, ~512, 9), Bench.HIDDEN);
        Bench.due("a sent one without all others", x.without(0, 0, 1023 - 256, 8), 60);
        Bench.due("as before", x.without(0, 0, 0, 9), 46);
    }

    private static void withoutTheyDrawNothing() {
        Bench.sentence("as if these had never been (they draw nothing)");
        for (long seed : SEEDS) {
            NotEnded x = Bench.withLaws("g:p;y:n");
            NotEnded z = Bench.withLaws("g:p;y:n");
            for (int j = 0; j < 5; j++) {
                x.person(j, j * 10, j % 2, false);
                if (j != 1 && j != 2) {
                    z.person(j, j * 10, j % 2, false);
                }
            }
            for (int j = 0; j < 3; j++) {
                int held = z.run(0, seed, 48, j, 0);
                Bench.due("without 1 and 2, seed " + seed, x.without(0, seed, 6, j == 0 ? 0 : j + 2), held);
            }
        }
    }

    private static void did() {
        Bench.sentence("DID: what a PERSON HOLDS at the end less what it HOLDS without all SENT ones");
        NotEnded x = Bench.withLaws("y:s", "y:1;y:s>0?0-9", "y:s>0?0-9;y:1", "y:v", "y:s=0?100;y:0-100");
        x.person(40, 0, 0, false);
        Bench.due("nobody is sent", x.did(0, 0, 0), 0);
        x.person(0, 0, 1, true);
        Bench.due("none near", x.did(0, 0, 0), 0);
        x.person(0, 0, 0, true);
        Bench.due("one near", x.did(0, 0, 0), 48);
        x.person(0, 0, 0, true);
        Bench.due("two near, up to 100", x.did(0, 0, 0), 60);
        Bench.due("by another law nothing", x.did(1, 0, 0), 0);
        Bench.due("less", x.did(2, 0, 0), -88);
        x.person(100, 0, 0, false);
        Bench.due("the least there may be", x.did(4, 0, 4), -100);
        NotEnded most = Bench.withLaws("y:s>0?100;y:0-100");
        most.person(0, 0, 0, false);
        most.person(0, 0, 0, true);
        Bench.due("the most there may be", most.did(0, 0, 0), 100);
    }

    private static void leanOnPutIn() {
        Bench.sentence("LEAN on PUT IN: less what it HOLDS if it had PUT IN nothing");
        NotEnded x = Bench.withLaws("y:i=0?p", "y:i=0?0-p", "y:p=0?100;y:0-100", "y:p=0?0-100;y:100");
        x.person(1, 0, 0, false);
        x.person(1, 1, 0, false);
        x.person(1, 99, 0, false);
        x.person(99, 99, 0, false);
        Bench.due("nothing put in", x.lean(0, 0, 0, 0), 0);
        Bench.due("one put in", x.lean(0, 0, 1, 0), 1);
        Bench.due("99 put in", x.lean(0, 0, 2, 0), 99);
        Bench.due("cut at 100", x.lean(0, 0, 3, 0), 1);
        Bench.due("cut at 0", x.lean(1, 0, 2, 0), -1);
        Bench.due("99 less", x.lean(1, 0, 3, 0), -99);
        Bench.due("the least", x.lean(2, 0, 2, 0), -100);
        Bench.due("the most", x.lean(3, 0, 2, 0), 100);
        Bench.due("it is as told again", Bench.worth(x, 0, 0, 2), 99);
    }

    private static void leanOnThoseNear() {
        Bench.sentence("LEAN on those near: if it had been HOME from the beginning (and draws nothing)");
        NotEnded x = Bench.withLaws("y:n+s", "y:i=0?m", "y:n=0?100;y:0-100", "y:n=0?0-100;y:100");
        x.person(20, 0, 0, false);
        Bench.due("nobody near", x.lean(0, 0, 0, 1), 0);
        x.person(30, 0, 0, true);
        x.person(50, 0, 0, true);
        x.person(90, 0, 1, false);
        Bench.due("two near, up to 100", x.lean(0, 0, 0, 1), 80);
        Bench.due("what they hold", x.lean(1, 0, 0, 1), 40);
        Bench.due("nobody near in the other house", x.lean(1, 0, 3, 1), 0);
        Bench.due("the least", x.lean(2, 0, 0, 1), -100);
        Bench.due("the most", x.lean(3, 0, 0, 1), 100);
        Bench.due("it is in its house again", x.run(0, 0, 0, 0, 1), 0);
        for (long seed : SEEDS) {
            // the second tells the first while it is in its house with a sent one; the first never goes, but draws
            NotEnded z = Bench.withLaws("g:p;x:s");
            z.person(0, 0, 0, false);
            z.person(100, 10, 1, false);
            z.person(0, 0, 1, true);
            z.know(0, 1);
            int both = hoursStayed(seed, 1, 2, 10);
            int alone = hoursStayed(seed, 0, 1, 10);
            Bench.due("both draw, seed " + seed, z.run(0, seed, 48, 0, 0), both);
            Bench.due("only the second draws, seed " + seed, z.lean(0, seed, 0, 1), both - alone);
        }
    }

    /** What happens in the last hour counts, and it happens once. */
    private static void fortyEightHours() {
        Bench.sentence("RUNS by an asking are of 48 HOURS, where nothing else is said");
        NotEnded x = Bench.withLaws("y:1", "y:i=47?0-p", "y:i=47?n*10", "y:i=47?s*10", "y:i=47?10");
        Bench.turning(x, "w:1");
        x.person(40, 30, 0, false);
        x.person(0, 0, 0, true);
        x.say(0, 0);
        Bench.due("without: 48 times one", x.without(0, 0, 2, 0), 88);
        Bench.due("without: the last hour", x.without(2, 0, 0, 0), 50);
        Bench.due("did", x.did(3, 0, 0), 10);
        Bench.due("lean on what it put in", x.lean(1, 0, 0, 0), -30);
        Bench.due("lean on those near", x.lean(2, 0, 0, 1), 10);
        Bench.due("books", x.books(4, 0, 0), 1);
        Bench.due("stayed", x.stayed(4, 0, 0), 1);
        Bench.due("help", x.help(1, 0, 0, 0), 0);
        Bench.due("lookers: the last hour makes it", x.lookers(3, 0), 0);
        Bench.due("lookers: it is made without", x.lookers(4, 0), 2);
        x.note(0, 48, 0, 88, 0);
        Bench.due("fits", x.fits(0, false), 1);
    }

    /** In how many hours one is in its house as they begin that draws every so manieth number. */
    private static int hoursStayed(long seed, int first, int every, int chance) {
        for (int hour = 0; hour < 48; hour++) {
            if (Bench.drawn(seed, first + hour * every) < chance) {
                return hour + 1;
            }
        }
        return 48;
    }
}
