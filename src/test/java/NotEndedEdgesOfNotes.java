/** The edges of notes and the laws that fit them, of books and how they lean, and of odds. */
public final class NotEndedEdgesOfNotes {
    public static void main(String[] args) {
        twentyNotes();
        hoursOfNotes();
        soFarOff();
        valuesOfNotes();
        housesOfNotes();
        fitsAsAnHourBegins();
        fitsWithinOff();
        fitsHouses();
        fitsAllNotes();
        fitsOfAllLaws();
        fitsBySeed();
        alone();
        books();
        keptLeans();
        keptMeansAreCut();
        sentOnesDoNotCount();
        oddsOfNobody();
        oddsOfOne();
        oddsAreChances();
        oddsOfEight();
        oddsOfHours();
        oddsOfWhoMay();
        oddsAddUp();
        Bench.close();
    }

    private static NotEnded one(int holds) {
        NotEnded x = Bench.withLaws("y:1");
        x.person(holds, 0, 0, false);
        return x;
    }

    private static void twentyNotes() {
        Bench.sentence("NOTES (20 at most)");
        NotEnded x = one(0);
        for (int i = 1; i <= 20; i++) {
            Bench.due("fits before note " + i, x.fits(0, false), 1);
            Bench.due("note " + i, x.note(0, i, 0, i, 0), i);
            Bench.due("notes", x.count(4), i);
        }
        // this one would not fit, so it would be seen if it had come
        Bench.due("a 21st", x.note(0, 0, 0, 99, 0), Bench.NONE);
        Bench.due("a 21st of a house", x.note(0, 0, 1, 3, 0), Bench.NONE);
        Bench.due("twenty", x.count(4), 20);
        Bench.due("it did not come", x.fits(0, false), 1);
        NotEnded z = one(0);
        for (int i = 1; i <= 20; i++) {
            z.note(0, i, 0, i == 20 ? 21 : i, 0);
        }
        Bench.due("the twentieth counts", z.fits(0, false), 0);
        NotEnded w = one(0);
        for (int i = 1; i <= 20; i++) {
            w.note(0, i, 0, i == 1 ? 2 : i, 0);
        }
        Bench.due("the first counts", w.fits(0, false), 0);
    }

    private static void hoursOfNotes() {
        Bench.sentence("as an HOUR begins (0 .. 48)");
        NotEnded x = one(0);
        Bench.due("the first", x.note(0, 0, 0, 0, 0), 1);
        Bench.due("the last", x.note(0, 48, 0, 48, 0), 2);
        for (int hour : new int[] {-1, 49, Integer.MIN_VALUE, Integer.MAX_VALUE}) {
            Bench.due("hour " + hour, x.note(0, hour, 0, 0, 0), Bench.NONE);
            Bench.due("hour " + hour, x.note(0, hour, 1, 0, 0), Bench.NONE);
        }
        Bench.due("two", x.count(4), 2);
        Bench.due("both fit", x.fits(0, false), 1);
    }

    private static void soFarOff() {
        Bench.sentence("so far off at most (0 .. 50)");
        NotEnded x = one(50);
        Bench.due("not at all", x.note(0, 0, 0, 50, 0), 1);
        Bench.due("50", x.note(0, 0, 0, 100, 50), 2);
        for (int off : new int[] {-1, 51, Integer.MIN_VALUE, Integer.MAX_VALUE}) {
            Bench.due("off " + off, x.note(0, 0, 0, 0, off), Bench.NONE);
        }
        Bench.due("two", x.count(4), 2);
        Bench.due("both fit", x.fits(0, false), 1);
    }

    private static void valuesOfNotes() {
        Bench.sentence("it HELD so much (0 .. 100)");
        NotEnded x = Bench.withLaws("y:0");
        x.person(0, 0, 0, false);
        x.person(100, 0, 0, false);
        Bench.due("nothing", x.note(0, 0, 0, 0, 0), 1);
        Bench.due("all", x.note(1, 0, 0, 100, 0), 2);
        for (int value : new int[] {-1, 101, Integer.MIN_VALUE, Integer.MAX_VALUE}) {
            Bench.due("value " + value, x.note(0, 0, 0, value, 50), Bench.NONE);
        }
        Bench.due("two", x.count(4), 2);
        Bench.due("both fit", x.fits(0, false), 1);
    }

    private static void housesOfNotes() {
        Bench.sentence("or was in a HOUSE (NONE: HOME)");
        NotEnded x = Bench.withLaws("g:i=0?100");
        x.person(0, 0, 0, false);
        x.person(0, 0, 3, false);
        Bench.due("the first house", x.note(0, 0, 1, 0, 0), 1);
        Bench.due("the last house", x.note(1, 0, 1, 3, 0), 2);
        Bench.due("home", x.note(1, 1, 1, -1, 0), 3);
        for (int value : new int[] {-2, 4, Integer.MIN_VALUE, Integer.MAX_VALUE}) {
            Bench.due("house " + value, x.note(0, 0, 1, value, 0), Bench.NONE);
        }
        Bench.due("three", x.count(4), 3);
        Bench.due("all fit", x.fits(0, false), 1);
    }

    private static void fitsAsAnHourBegins() {
        Bench.sentence("of a PERSON, as an HOUR begins: it HELD so much");
        for (int hour = 0; hour <= 48; hour++) {
            NotEnded x = one(10);
            x.note(0, hour, 0, 10 + hour, 0);
            Bench.due("as hour " + hour + " begins", x.fits(0, false), 1);
            x.note(0, hour, 0, 11 + hour, 0);
            Bench.due("not as it ends", x.fits(0, false), 0);
        }
    }

    private static void fitsWithinOff() {
        Bench.sentence("so far off at most: a LAW FITS");
        for (int off = 0; off <= 50; off += 25) {
            for (int value = 0; value <= 100; value++) {
                NotEnded x = Bench.withLaws("y:0");
                x.person(40, 0, 0, false);
                x.note(0, 48, 0, value, off);
                boolean want = value - 40 <= off && 40 - value <= off;
                Bench.due("value " + value + " off " + off, x.fits(0, false), want ? 1 : 0);
            }
        }
        NotEnded edge = Bench.withLaws("y:0");
        edge.person(0, 0, 0, false);
        edge.person(100, 0, 1, false);
        edge.note(0, 0, 0, 50, 50);
        edge.note(1, 0, 0, 50, 50);
        Bench.due("just 50 off", edge.fits(0, false), 1);
        edge.note(0, 0, 0, 51, 50);
        Bench.due("51 off", edge.fits(0, false), 0);
    }

    private static void fitsHouses() {
        Bench.sentence("or was in a HOUSE: a LAW FITS");
        for (int house = -1; house <= 3; house++) {
            NotEnded x = Bench.withLaws("y:0", "g:i=20?100");
            x.person(0, 0, 2, false);
            x.note(0, 20, 1, house, 0);
            Bench.due("before it goes: " + house, x.fits(0, false), house == 2 ? 3 : 0);
            NotEnded z = Bench.withLaws("y:0", "g:i=20?100");
            z.person(0, 0, 2, false);
            z.note(0, 21, 1, house, 0);
            Bench.due("behind it: " + house, z.fits(0, false), house == 2 ? 1 : house == -1 ? 2 : 0);
        }
    }

    private static void fitsAllNotes() {
        Bench.sentence("if by its RUN all NOTES are so");
        NotEnded x = Bench.withLaws("y:1", "y:2", "y:i=0?1", "y:0");
        x.person(0, 0, 0, false);
        Bench.due("no notes: every law", x.fits(0, false), 15);
        Bench.due("no notes: every law", x.fits(0, true), 15);
        x.note(0, 1, 0, 1, 0);
        Bench.due("one note", x.fits(0, false), 1 + 4);
        x.note(0, 0, 0, 0, 0);
        Bench.due("a note of the beginning", x.fits(0, false), 1 + 4);
        x.note(0, 2, 0, 2, 0);
        Bench.due("three notes", x.fits(0, false), 1);
        x.note(0, 1, 0, 2, 0);
        Bench.due("notes that gainsay each other", x.fits(0, false), 0);
    }

    private static void fitsOfAllLaws() {
        Bench.sentence("LAWS that FIT, as bits");
        NotEnded none = new NotEnded();
        Bench.due("no laws", none.fits(0, false), 0);
        Bench.due("no laws", none.fits(0, true), 0);
        NotEnded x = Bench.withLaws("y:0", "y:1", "y:2", "y:3", "y:4", "y:5");
        Bench.due("nobody, six laws", x.fits(0, false), 63);
        x.person(0, 0, 0, false);
        Bench.due("six laws", x.fits(0, false), 63);
        x.note(0, 1, 0, 5, 0);
        Bench.due("the last of six", x.fits(0, false), 32);
        NotEnded z = Bench.withLaws("y:0", "y:1", "y:2", "y:3", "y:4", "y:5");
        z.person(0, 0, 0, false);
        z.note(0, 1, 0, 0, 0);
        Bench.due("the first of six", z.fits(0, false), 1);
    }

    private static void fitsBySeed() {
        Bench.sentence("by its RUN by a seed");
        for (long seed : new long[] {0, 1, -1, Long.MAX_VALUE, Long.MIN_VALUE}) {
            int drawn = Bench.drawn(seed, 0);
            NotEnded x = Bench.withLaws("g:" + drawn, "g:" + (drawn + 1));
            x.person(0, 0, 1, false);
            x.note(0, 1, 1, 1, 0);
            Bench.due("still in its house", x.fits(seed, false), 1);
            NotEnded z = Bench.withLaws("g:" + drawn, "g:" + (drawn + 1));
            z.person(0, 0, 1, false);
            z.note(0, 1, 1, -1, 0);
            Bench.due("home", z.fits(seed, true), 2);
        }
    }

    private static void alone() {
        Bench.sentence("ALONE: of NOTES of PERSONS without another one in their HOUSE as told");
        NotEnded x = Bench.withLaws("y:1");
        x.person(0, 0, 0, false);
        x.note(0, 0, 0, 9, 0);
        Bench.due("one alone", x.fits(0, true), 0);
        x.person(0, 0, 1, false);
        Bench.due("another in another house", x.fits(0, true), 0);
        x.person(0, 0, 0, true);
        Bench.due("a sent one in its house", x.fits(0, true), 1);
        Bench.due("by all notes", x.fits(0, false), 0);
        x.note(1, 0, 0, 8, 0);
        Bench.due("the other one is alone", x.fits(0, true), 0);
        NotEnded gone = Bench.withLaws("g:100");
        gone.person(0, 0, 2, false);
        gone.person(0, 0, 2, false);
        gone.note(1, 48, 0, 9, 0);
        Bench.due("both home, but together as told", gone.fits(0, true), 1);
        NotEnded sent = Bench.withLaws("y:1");
        sent.person(5, 0, 3, true);
        sent.note(0, 48, 0, 53, 0);
        Bench.due("a sent one alone", sent.fits(0, true), 0);
        NotEnded four = Bench.withLaws("y:0");
        for (int j = 0; j < 4; j++) {
            four.person(0, 0, j, false);
            four.note(j, 0, 0, 0, 0);
        }
        Bench.due("four alone", four.fits(0, true), 1);
        four.note(3, 0, 0, 1, 0);
        Bench.due("the last of four", four.fits(0, true), 0);
        four.person(0, 0, 3, false);
        Bench.due("no longer alone", four.fits(0, true), 1);
    }

    private static void books() {
        Bench.sentence("BOOKS by a RUN: HOUSES (as told at the beginning) of which somebody TOLD");
        NotEnded x = Bench.withLaws("y:0", "y:i=47?1", "g:100;y:i=47?1", "y:0-1");
        Bench.due("nobody", x.books(0, 0, 0), 0);
        for (int house = 0; house < 4; house++) {
            x.person(49, 0, house, false);
            Bench.due("49", x.books(0, 0, 0), 0);
        }
        Bench.due("50 in the last hour", x.books(1, 0, 0), 15);
        Bench.due("at home by then", x.books(2, 0, 0), 15);
        for (int house = 3; house >= 0; house--) {
            x.person(50, 0, house, false);
            Bench.due("50", x.books(0, 0, 0), 15 - ((1 << house) - 1));
        }
        Bench.due("none tells", x.books(3, 0, 0), 0);
        x.person(51, 0, 2, false);
        Bench.due("one tells once", x.books(3, 0, 0), 4);
    }

    private static void keptLeans() {
        Bench.sentence("how KEPT leans (0 without BOOKS)");
        NotEnded x = Bench.withLaws("y:0", "y:0-1", "y:i=0?v/50*100;y:0-v", "y:i=0?0;y:v>49?0-100;y:100");
        Bench.due("nobody", x.books(0, 0, 1), 0);
        x.person(40, 0, 0, false);
        Bench.due("no books", x.books(0, 0, 1), 0);
        x.person(100, 0, 1, false);
        Bench.due("100 less 70", x.books(0, 0, 1), 30);
        Bench.due("at the end: 52 less 26", x.books(1, 0, 1), 26);
        Bench.due("at the end nobody holds it", x.books(2, 0, 1), 0);
        NotEnded low = Bench.withLaws("y:i=0?0;y:p=1?0-100;y:100");
        low.person(100, 1, 0, false);
        low.person(0, 0, 1, false);
        // the second one tells too, from the second hour on, so both houses are in books
        Bench.due("all in books", low.books(0, 0, 0), 3);
        Bench.due("all in books: nothing", low.books(0, 0, 1), 0);
        NotEnded below = Bench.withLaws("y:i=0?0;y:p=1?0-100");
        below.person(100, 1, 0, false);
        below.person(49, 0, 1, false);
        Bench.due("only the first in books", below.books(0, 0, 0), 1);
        Bench.due("below 0", below.books(0, 0, 1), 0 - 24);
        NotEnded all = Bench.withLaws("y:0");
        all.person(50, 0, 3, false);
        Bench.due("one and all", all.books(0, 0, 1), 0);
        all.person(0, 0, 3, false);
        Bench.due("all of the house count", all.books(0, 0, 1), 0);
        all.person(10, 0, 2, false);
        Bench.due("25 less 20", all.books(0, 0, 1), 5);
    }

    private static void keptMeansAreCut() {
        Bench.sentence("the mean (cut) of what is HELD by all of HOUSES in BOOKS, less that by all");
        // 50 and 1 in books: 25.5; with 0: 17
        int[][] cases = {{50, 1, 0, 25 - 17}, {50, 0, 1, 25 - 17}, {50, 0, 0, 25 - 16}, {51, 0, 0, 25 - 17},
            {51, 1, 49, 26 - 33}, {99, 0, 0, 49 - 33}, {100, 100, 49, 100 - 83}, {50, 1, 2, 25 - 17},
            {50, 1, 3, 25 - 18}};
        for (int[] c : cases) {
            NotEnded x = Bench.withLaws("y:0");
            x.person(c[0], 0, 0, false);
            x.person(c[1], 0, 0, false);
            x.person(c[2], 0, 1, false);
            Bench.due(c[0] + ", " + c[1] + " and " + c[2], x.books(0, 0, 1), c[3]);
        }
    }

    private static void sentOnesDoNotCount() {
        Bench.sentence("SENT ones don't count");
        NotEnded x = Bench.withLaws("y:0");
        x.person(60, 0, 0, false);
        x.person(20, 0, 1, false);
        x.person(100, 0, 0, true);
        x.person(0, 0, 1, true);
        x.person(100, 0, 2, true);
        Bench.due("a house of sent ones is in no book", x.books(0, 0, 0), 1);
        Bench.due("60 less 40", x.books(0, 0, 1), 20);
        NotEnded only = Bench.withLaws("y:0");
        only.person(100, 0, 0, true);
        Bench.due("sent ones only", only.books(0, 0, 0), 0);
        Bench.due("sent ones only", only.books(0, 0, 1), 0);
    }

    private static void oddsOfNobody() {
        Bench.sentence("ODDS: over 100 to the number of those who may, where nobody may");
        NotEnded x = Bench.withLaws("g:50");
        for (int k = 0; k <= 8; k++) {
            Bench.due("nobody there, k " + k, x.odds(0, 0, 0, k), k == 0 ? 1 : 0);
        }
        x.person(0, 0, 0, true);
        Bench.due("a sent one", x.odds(0, 0, 0, 0), 1);
        Bench.due("a sent one", x.odds(0, 0, 0, 1), 0);
        NotEnded home = Bench.withLaws("g:100");
        home.person(0, 0, 0, false);
        Bench.due("in its house", home.odds(0, 0, 0, 1), 100);
        Bench.due("home", home.odds(0, 0, 1, 0), 1);
        Bench.due("home", home.odds(0, 0, 1, 1), 0);
    }

    private static void oddsOfOne() {
        Bench.sentence("that just k of those in a HOUSE go HOME then (k 0 .. 8)");
        NotEnded x = Bench.withLaws("g:30");
        x.person(0, 0, 0, false);
        Bench.due("none", x.odds(0, 0, 0, 0), 70);
        Bench.due("one", x.odds(0, 0, 0, 1), 30);
        for (int k = 2; k <= 8; k++) {
            Bench.due("more than may", x.odds(0, 0, 0, k), 0);
        }
        for (int k : new int[] {-1, 9, 32, Integer.MIN_VALUE, Integer.MAX_VALUE}) {
            Bench.due("no such k: " + k, x.odds(0, 0, 0, k), Bench.NONE);
        }
    }

    private static void oddsAreChances() {
        Bench.sentence("chances are WORTH of g, within 0 .. 100");
        String[] worths = {"0", "0-1", "0-9999*9999", "1", "99", "100", "101", "9999*9999"};
        int[] chances = {0, 0, 0, 1, 99, 100, 100, 100};
        for (int i = 0; i < worths.length; i++) {
            NotEnded x = Bench.withLaws("g:" + worths[i]);
            x.person(0, 0, 0, false);
            Bench.due("it goes by " + worths[i], x.odds(0, 0, 0, 1), chances[i]);
            Bench.due("it stays by " + worths[i], x.odds(0, 0, 0, 0), 100 - chances[i]);
        }
        NotEnded none = Bench.withLaws("y:1");
        none.person(0, 0, 0, false);
        Bench.due("no g", none.odds(0, 0, 0, 0), 100);
    }

    private static void oddsOfEight() {
        Bench.sentence("those who may (in a HOUSE, not SENT; eight at most)");
        NotEnded x = Bench.withLaws("g:100", "g:0", "g:50");
        long whole = 1;
        for (int j = 0; j < 8; j++) {
            x.person(0, 0, j % 4, false);
            whole *= 100;
            Bench.due("all go", x.odds(0, 0, 0, j + 1), whole);
            Bench.due("none goes", x.odds(1, 0, 0, 0), whole);
            Bench.due("not all", x.odds(0, 0, 0, j), 0);
        }
        Bench.due("eight: 10 to the 16th", x.odds(0, 0, 0, 8), 10_000_000_000_000_000L);
        x.person(0, 0, 0, true);
        Bench.due("a sent one is no ninth", x.odds(0, 0, 0, 8), 10_000_000_000_000_000L);
        x.person(0, 0, 0, false);
        for (int law = 0; law < 3; law++) {
            for (int k = 0; k <= 8; k++) {
                Bench.due("nine may", x.odds(law, 0, 0, k), Bench.NONE);
            }
        }
        Bench.due("all nine are home", x.odds(0, 0, 1, 0), 1);
        Bench.due("nine stayed", x.odds(1, 0, 47, 0), Bench.NONE);
        NotEnded ten = Bench.withLaws("g:n>6?100;g:i=0?0;g:20");
        for (int j = 0; j < 10; j++) {
            ten.person(0, 0, j < 8 ? 0 : 1, false);
        }
        Bench.due("ten may", ten.odds(0, 0, 0, 0), Bench.NONE);
        Bench.due("two may behind an hour", ten.odds(0, 0, 1, 2), 400);
    }

    private static void oddsOfHours() {
        Bench.sentence("behind a RUN of so many HOURS (fewer than 48)");
        NotEnded x = Bench.withLaws("g:i", "g:i=47?v;y:1");
        x.person(0, 0, 0, false);
        Bench.due("behind no hour", x.odds(0, 0, 0, 1), 0);
        Bench.due("behind 47", x.odds(1, 0, 47, 1), 47);
        Bench.due("behind 46", x.odds(1, 0, 46, 1), 0);
        for (int hours : new int[] {-1, 48, 49, Integer.MIN_VALUE, Integer.MAX_VALUE}) {
            Bench.due("no such hours: " + hours, x.odds(0, 0, hours, 0), Bench.NONE);
        }
    }

    private static void oddsOfWhoMay() {
        Bench.sentence("of those in a HOUSE behind that RUN");
        for (long seed : new long[] {0, 5, -9, Long.MIN_VALUE, Long.MAX_VALUE}) {
            NotEnded x = Bench.withLaws("g:i=0?50;g:10");
            int may = 0;
            for (int j = 0; j < 6; j++) {
                x.person(0, 0, j % 4, false);
                may += Bench.drawn(seed, j) < 50 ? 0 : 1;
            }
            long all = 1;
            for (int j = 0; j < may; j++) {
                all *= 10;
            }
            Bench.due("all " + may + " go, seed " + seed, x.odds(0, seed, 1, may), all);
            Bench.due("one more, seed " + seed, x.odds(0, seed, 1, may + 1), 0);
        }
    }

    private static void oddsAddUp() {
        Bench.sentence("as a numerator over 100 to the number of those who may");
        NotEnded x = Bench.withLaws("g:p");
        int[] chances = {0, 1, 50, 99, 37, 62, 13, 88};
        long whole = 1;
        for (int j = 0; j < 8; j++) {
            x.person(0, chances[j], 0, false);
            whole *= 100;
            long sum = 0;
            for (int k = 0; k <= 8; k++) {
                sum += x.odds(0, 0, 0, k);
            }
            Bench.due("all odds of " + (j + 1), sum, whole);
        }
        long[] byHand = new long[9];
        for (int set = 0; set < 256; set++) {
            long ways = 1;
            for (int j = 0; j < 8; j++) {
                ways *= (set >> j & 1) != 0 ? chances[j] : 100 - chances[j];
            }
            byHand[Integer.bitCount(set)] += ways;
        }
        for (int k = 0; k <= 8; k++) {
            Bench.due("just " + k + " of eight", x.odds(0, 0, 0, k), byHand[k]);
        }
    }
}
