/**
 * For each promise: the last arguments that are taken and the first that are refused, on each side, the empty and the
 * full; and behind each refused call that nothing has changed.
 */
public final class NotEndedEdgesOfCalls {
    interface Call {
        long of(NotEnded x, long[] a);
    }

    private static final long[] FREE = null;

    public static void main(String[] args) {
        newObject();
        feedOfZeros();
        feedUpToTheEnd();
        highestFirst();
        end();
        fault();
        text();
        sixLawsEightTurnings();
        person();
        tenPersons();
        know();
        word();
        fourWords();
        worth();
        run();
        all();
        without();
        didAndLean();
        note();
        twentyNotes();
        fits();
        books();
        odds();
        lets();
        bars();
        bolder();
        say();
        stayed();
        act();
        sixActs();
        help();
        lookers();
        count();
        askingChangesNothing();
        whatIsTakenIsSeen();
        manyCalls();
        anyArguments();
        objectsAreApart();
        Bench.close();
    }

    /** Each argument by itself at its edges, with the others as they are good. */
    private static void edges(String name, Bench.Maker maker, Call call, long refused, long[] good, long[]... bounds) {
        Bench.due(name + " of good ones is taken", call.of(maker.make(), good) != refused, true);
        for (int i = 0; i < bounds.length; i++) {
            if (bounds[i] == FREE) {
                continue;
            }
            for (long edge : bounds[i]) {
                String what = name + ", argument " + i + " is " + edge;
                Bench.due(what + ", taken", call.of(maker.make(), changed(good, i, edge)) != refused, true);
            }
            long least = bounds[i][0];
            long most = bounds[i][1];
            for (long edge : new long[] {least - 1, most + 1, Integer.MIN_VALUE, Integer.MAX_VALUE}) {
                long[] bad = changed(good, i, edge);
                Bench.refused(name + ", argument " + i + " is " + edge, maker, x -> call.of(x, bad), refused);
            }
        }
    }

    /** With nothing told there are no such ones. */
    private static void refusedByAll(String name, Call call, long refused, long... good) {
        Bench.refused(name + " of an empty object", Bench::empty, x -> call.of(x, good), refused);
    }

    private static long[] changed(long[] good, int at, long value) {
        long[] other = good.clone();
        other[at] = value;
        return other;
    }

    private static long[] within(long least, long most) {
        return new long[] {least, most};
    }

    private static void newObject() {
        Bench.sentence("Promise 1: Nobody, nothing");
        NotEnded x = new NotEnded();
        for (int what = 0; what <= 6; what++) {
            Bench.due("count " + what, x.count(what), 0);
        }
        Bench.due("the tape as a law", x.fault(0), 0);
        Bench.due("the tape as a turning", x.fault(1), 0);
        Bench.due("a text of nothing", x.text(0), Bench.NONE);
        Bench.due("a text of nothing", x.text(1), Bench.NONE);
        Bench.due("fits", x.fits(0, false), 0);
        Bench.due("fits alone", x.fits(0, true), 0);
        Bench.due("its first person", x.person(0, 0, 0, false), 0);
        Bench.due("its first word", x.word(0), 1);
        Bench.due("its first note", x.note(0, 0, 0, 0, 0), 1);
        Bench.due("its first act", x.act(0, 0, 0, 1), 0);
        Bench.due("its first law", Bench.law(x, "y:1"), 0);
        Bench.due("its first turning", Bench.turning(x, "w:1"), 0);
    }

    private static void feedOfZeros() {
        Bench.sentence("Promise 2: bytes of 0 are left out");
        NotEnded x = new NotEnded();
        Bench.due("twenty of 0", x.feed(0, 0, 0, 0, 0), 0);
        Bench.due("one of twenty", x.feed(0, 0, 0, 0, 0x79), 1);
        Bench.due("another of twenty", x.feed(0x3a000000, 0, 0, 0, 0), 2);
        Bench.due("two of twenty", x.feed(0, 0x00310032, 0, 0, 0), 4);
        Bench.due("it is y:12", x.fault(0), Bench.NONE);
        Bench.due("twenty of 0 more", x.feed(0, 0, 0, 0, 0), 4);
        Bench.due("a byte of 1", x.feed(1, 0, 0, 0, 0), 5);
        Bench.due("it is the fault", x.fault(0), 4);
        Bench.due("twenty of 255", new NotEnded().feed(-1, -1, -1, -1, -1), 20);
        Bench.due("five of 128", new NotEnded().feed(1 << 31, 128, 128 << 8, 128 << 16, 1 << 31), 5);
    }

    private static NotEnded withBytes(int many) {
        NotEnded x = new NotEnded();
        Bench.feed(x, ("y:" + "1+".repeat(59)).substring(0, many));
        return x;
    }

    private static void feedUpToTheEnd() {
        Bench.sentence("Promise 2: NONE: more than 120");
        for (int many = 99; many <= 120; many++) {
            for (int more = 0; more <= 20; more++) {
                int[] n = new int[5];
                for (int i = 0; i < more; i++) {
                    n[i % 5] = n[i % 5] << 8 | 32;
                }
                int before = many;
                Bench.Maker maker = () -> withBytes(before);
                Bench.Ask call = x -> x.feed(n[0], n[1], n[2], n[3], n[4]);
                if (many + more > 120) {
                    Bench.refused(more + " behind " + many, maker, call, Bench.NONE);
                } else {
                    NotEnded x = maker.make();
                    Bench.due(more + " behind " + many, call.of(x), many + more);
                    Bench.due("it has so many", x.count(6), many + more);
                }
            }
        }
        for (Bench.Maker maker : new Bench.Maker[] {Bench::full, () -> withBytes(120)}) {
            for (int shift = 0; shift < 32; shift += 8) {
                int one = 1 << shift;
                Bench.refused("the 121st byte", maker, x -> x.feed(one, 0, 0, 0, 0), Bench.NONE);
                Bench.refused("the 121st byte", maker, x -> x.feed(0, 0, one, 0, 0), Bench.NONE);
                Bench.refused("the 121st byte", maker, x -> x.feed(0, 0, 0, 0, one), Bench.NONE);
            }
            Bench.refused("twenty", maker, x -> x.feed(-1, -1, -1, -1, -1), Bench.NONE);
            Bench.refused("none is taken", maker, x -> x.feed(0, 0, 0, 0, 0), 120);
        }
    }

    /** Three signs of a law at any three of twenty places, zeros between. */
    private static void highestFirst() {
        Bench.sentence("Promise 2: of each number the highest first");
        for (int i = 0; i < 20; i++) {
            for (int j = i + 1; j < 20; j++) {
                for (int k = j + 1; k < 20; k++) {
                    int[] n = new int[5];
                    n[i / 4] |= 'g' << 24 - i % 4 * 8;
                    n[j / 4] |= ':' << 24 - j % 4 * 8;
                    n[k / 4] |= '7' << 24 - k % 4 * 8;
                    NotEnded x = new NotEnded();
                    Bench.due("three bytes", x.feed(n[0], n[1], n[2], n[3], n[4]), 3);
                    Bench.due("at " + i + ", " + j + ", " + k, x.fault(0), Bench.NONE);
                }
            }
        }
        NotEnded x = new NotEnded();
        x.feed(0x793a3132, 0x33342b34, 0x3332312d, 0x5b762b70, 0x5d2a3130);
        x.person(3, 4, 0, false);
        Bench.due("all twenty", x.text(0), 0);
        Bench.due("y:1234+4321-[v+p]*10", Bench.worth(x, 0, 0, 0), 1234 + 4321 - 70);
    }

    private static void end() {
        Bench.sentence("Promise 3: The TAPE has its first n bytes alone. False: n");
        for (int many : new int[] {0, 1, 7, 60, 119, 120}) {
            Bench.Maker maker = () -> withBytes(many);
            for (int n : new int[] {-1, many + 1, 121, Integer.MIN_VALUE, Integer.MAX_VALUE}) {
                Bench.refused("end(" + n + ") of " + many, maker, x -> x.end(n) ? 1 : 0, 0);
            }
            Bench.refused("end of all is taken", maker, x -> x.end(many) ? 1 : 0, 1);
            for (int n = 0; n <= many; n++) {
                NotEnded x = maker.make();
                Bench.due("end(" + n + ") of " + many, x.end(n), true);
                Bench.due("so many", x.count(6), n);
                boolean whole = n > 2 && n % 2 == 1;
                Bench.due("the first ones", x.fault(0), whole ? Bench.NONE : n);
                Bench.due("those behind are gone", x.end(n + 1), false);
                Bench.due("a sign more", x.feed('#', 0, 0, 0, 0), n < 120 ? n + 1 : Bench.NONE);
                Bench.due("comes behind them", x.fault(0), n);
            }
        }
        Bench.refused("end(-1)", Bench::full, x -> x.end(-1) ? 1 : 0, 0);
        Bench.refused("end(121)", Bench::full, x -> x.end(121) ? 1 : 0, 0);
        Bench.refused("end(8)", Bench::some, x -> x.end(8) ? 1 : 0, 0);
    }

    private static void fault() {
        Bench.sentence("Promise 4: NONE: none. -2: no such sort");
        for (Bench.Maker maker : new Bench.Maker[] {NotEnded::new, Bench::empty, Bench::some, Bench::full}) {
            for (int sort : new int[] {-1, 2, Integer.MIN_VALUE, Integer.MAX_VALUE}) {
                Bench.refused("fault(" + sort + ")", maker, x -> x.fault(sort), Bench.NO_SORT);
            }
            Bench.onlyAsks("fault(0)", maker, x -> x.fault(0));
            Bench.onlyAsks("fault(1)", maker, x -> x.fault(1));
        }
        Bench.due("nothing", new NotEnded().fault(0), 0);
        Bench.due("a law", Bench.empty().fault(0), Bench.NONE);
        Bench.due("no turning", Bench.empty().fault(1), 0);
        Bench.due("six laws are no fault", Bench.full().fault(0), 120);
        NotEnded x = Bench.full();
        x.end(3);
        Bench.due("a law that there is no room for has none", x.fault(0), Bench.NONE);
    }

    private static void text() {
        Bench.sentence("Promise 5: NONE: a FAULT, no such sort");
        for (Bench.Maker maker : new Bench.Maker[] {NotEnded::new, Bench::empty, Bench::some, Bench::full}) {
            for (int sort : new int[] {-1, 2, Integer.MIN_VALUE, Integer.MAX_VALUE}) {
                Bench.refused("text(" + sort + ")", maker, x -> x.text(sort), Bench.NONE);
            }
        }
        Bench.refused("no text", NotEnded::new, x -> x.text(0), Bench.NONE);
        Bench.refused("no turning", Bench::empty, x -> x.text(1), Bench.NONE);
        Bench.refused("no turning", Bench::some, x -> x.text(1), Bench.NONE);
        Bench.refused("a text that ends too early", () -> withBytes(4), x -> x.text(0), Bench.NONE);
        Bench.refused("a text that ends too early", () -> withBytes(120), x -> x.text(0), Bench.NONE);
        Bench.sentence("Promise 5: The TAPE (empty then) is one of these: its number");
        NotEnded x = withBytes(119);
        Bench.due("119 bytes", x.text(0), 0);
        Bench.due("the tape is empty then", x.count(6), 0);
        Bench.due("nothing is left of it", x.fault(0), 0);
        Bench.due("no text of it again", x.text(0), Bench.NONE);
        Bench.due("one law", x.count(0), 1);
        Bench.due("the next", Bench.law(x, "y:5"), 1);
    }

    private static NotEnded withTexts(int laws, int turnings, String tape) {
        NotEnded x = new NotEnded();
        for (int i = 0; i < laws; i++) {
            Bench.law(x, "y:" + (i + 1));
        }
        for (int i = 0; i < turnings; i++) {
            Bench.turning(x, "w:a+b+c+d+e>" + i + "?1");
        }
        x.person(0, 0, 0, false);
        Bench.feed(x, tape);
        return x;
    }

    private static void sixLawsEightTurnings() {
        Bench.sentence("LAWS (6 texts at most), TURNINGS (8 likewise): there are so many");
        Bench.due("the sixth law", withTexts(5, 8, "y:9").text(0), 5);
        Bench.refused("a seventh law", () -> withTexts(6, 0, "y:9"), x -> x.text(0), Bench.NONE);
        Bench.refused("a seventh law", () -> withTexts(6, 8, "y:9"), x -> x.text(0), Bench.NONE);
        Bench.due("the eighth turning", withTexts(6, 7, "w:9").text(1), 7);
        Bench.refused("a ninth turning", () -> withTexts(0, 8, "w:9"), x -> x.text(1), Bench.NONE);
        Bench.refused("a ninth turning", () -> withTexts(6, 8, "w:9"), x -> x.text(1), Bench.NONE);
        Bench.due("a turning behind six laws", withTexts(6, 6, "w:9").text(1), 6);
        Bench.due("a law behind eight turnings", withTexts(5, 8, "y:9").text(0), 5);
        NotEnded x = withTexts(6, 8, "");
        for (int law = 0; law < 6; law++) {
            Bench.due("law " + law, Bench.worth(x, law, 0, 0), law + 1);
        }
        int[] bars = {1, 6, 16, 26, 31, 32, 32, 32};
        for (int turning = 0; turning < 8; turning++) {
            Bench.due("turning " + turning, x.bars(turning), bars[turning]);
        }
    }

    private static void person() {
        Bench.sentence("Promise 6: HOLDS (0 .. 100), PUT IN (0 .. 99), a HOUSE (0 .. 3). NONE: out of bounds");
        for (int sent = 0; sent <= 1; sent++) {
            boolean isSent = sent == 1;
            Call call = (x, a) -> x.person((int) a[0], (int) a[1], (int) a[2], isSent);
            edges("person", Bench::empty, call, Bench.NONE, new long[] {5, 5, 1}, within(0, 100), within(0, 99),
                within(0, 3));
            edges("person", Bench::some, call, Bench.NONE, new long[] {5, 5, 1}, within(0, 100), within(0, 99),
                within(0, 3));
        }
    }

    private static void tenPersons() {
        Bench.sentence("PERSONS (10 at most): there are ten");
        NotEnded x = Bench.withLaws("y:v");
        for (int j = 0; j < 10; j++) {
            Bench.due("person " + j, x.person(j, 0, 0, j % 2 == 0), j);
            Bench.due("so many", x.count(2), j + 1);
        }
        for (int j = 0; j < 10; j++) {
            Bench.due("what it holds", Bench.worth(x, 0, 0, j), j);
        }
        Bench.refused("an eleventh", Bench::full, z -> z.person(0, 0, 0, false), Bench.NONE);
        Bench.refused("an eleventh", Bench::full, z -> z.person(100, 99, 3, true), Bench.NONE);
    }

    private static void know() {
        Bench.sentence("Promise 7: False: no such ones, alike");
        Call call = (x, a) -> x.know((int) a[0], (int) a[1]) ? 1 : 0;
        edges("know", Bench::some, call, 0, new long[] {2, 3}, within(0, 4), within(0, 4));
        edges("know", Bench::full, call, 0, new long[] {5, 7}, within(0, 9), within(0, 9));
        refusedByAll("know", call, 0, 0, 1);
        for (int j = 0; j < 5; j++) {
            int one = j;
            Bench.refused("alike", Bench::some, x -> x.know(one, one) ? 1 : 0, 0);
        }
        Bench.refused("alike, and no such one", Bench::some, x -> x.know(5, 5) ? 1 : 0, 0);
        Bench.refused("know again is taken", Bench::some, x -> x.know(0, 1) ? 1 : 0, 1);
        Bench.refused("know again the other way is taken", Bench::some, x -> x.know(1, 0) ? 1 : 0, 1);
    }

    private static void word() {
        Bench.sentence("Promise 8: a WORD is due at an HOUR (0 .. 47). NONE: out of bounds");
        Call call = (x, a) -> x.word((int) a[0]);
        edges("word", Bench::empty, call, Bench.NONE, new long[] {5}, within(0, 47));
        edges("word", Bench::some, call, Bench.NONE, new long[] {5}, within(0, 47));
    }

    private static void fourWords() {
        Bench.sentence("WORDS (4 at most): there are four");
        NotEnded x = new NotEnded();
        for (int i = 1; i <= 4; i++) {
            Bench.due("word " + i, x.word(47), i);
            Bench.due("so many", x.count(3), i);
        }
        Bench.refused("a fifth", Bench::full, z -> z.word(0), Bench.NONE);
        Bench.refused("a fifth", Bench::full, z -> z.word(47), Bench.NONE);
    }

    private static void worth() {
        Bench.sentence("Promise 9: NoSuchElementException: no such ones");
        Call call = (x, a) -> Bench.worth(x, (int) a[0], (int) a[1], (int) a[2]);
        edges("worth", Bench::some, call, Bench.THROWN, new long[] {1, 1, 1}, within(0, 1), within(0, 2),
            within(0, 4));
        edges("worth", Bench::full, call, Bench.THROWN, new long[] {1, 1, 1}, within(0, 5), within(0, 2),
            within(0, 9));
        refusedByAll("worth", call, Bench.THROWN, 0, 0, 0);
        Bench.refused("no law", () -> withTexts(0, 1, ""), x -> Bench.worth(x, 0, 0, 0), Bench.THROWN);
        Bench.refused("nobody", () -> Bench.withLaws("y:1"), x -> Bench.worth(x, 0, 0, 0), Bench.THROWN);
    }

    private static void run() {
        Bench.sentence("Promise 10: HOURS (0 .. 48). HIDDEN: no such ones");
        Call call = (x, a) -> x.run((int) a[0], a[1], (int) a[2], (int) a[3], (int) a[4]);
        edges("run", Bench::some, call, Bench.HIDDEN, new long[] {1, 7, 9, 1, 0}, within(0, 1), FREE, within(0, 48),
            within(0, 4), within(0, 2));
        edges("run", Bench::full, call, Bench.HIDDEN, new long[] {1, 7, 9, 1, 0}, within(0, 5), FREE, within(0, 48),
            within(0, 9), within(0, 2));
        refusedByAll("run", call, Bench.HIDDEN, 0, 7, 9, 0, 0);
        Bench.due("any seed", Bench.some().run(0, Long.MIN_VALUE, 0, 1, 0), 70);
        Bench.due("any seed", Bench.some().run(0, Long.MAX_VALUE, 0, 1, 0), 70);
    }

    private static void all() {
        Bench.sentence("Promise 11: NONE: no such ones");
        Call call = (x, a) -> x.all((int) a[0], a[1], (int) a[2], (int) a[3]);
        edges("all", Bench::some, call, Bench.NONE, new long[] {1, 7, 9, 0}, within(0, 1), FREE, within(0, 48),
            within(0, 1));
        edges("all", Bench::full, call, Bench.NONE, new long[] {1, 7, 9, 1}, within(0, 5), FREE, within(0, 48),
            within(0, 1));
        refusedByAll("all", call, Bench.NONE, 0, 7, 9, 0);
    }

    private static void without() {
        Bench.sentence("Promise 12: HIDDEN: no such ones, itself among them");
        Call call = (x, a) -> x.without((int) a[0], a[1], (int) a[2], (int) a[3]);
        edges("without", Bench::some, call, Bench.HIDDEN, new long[] {1, 7, 0, 1}, within(0, 1), FREE, FREE,
            within(0, 4));
        edges("without", Bench::some, call, Bench.HIDDEN, new long[] {1, 7, 0, 4}, FREE, FREE, within(0, 15));
        edges("without", Bench::full, call, Bench.HIDDEN, new long[] {1, 7, 6, 0}, within(0, 5), FREE,
            new long[] {0, 1022});
        refusedByAll("without", call, Bench.HIDDEN, 0, 7, 0, 0);
        for (int j = 0; j < 5; j++) {
            int one = j;
            Bench.refused("itself", Bench::some, x -> x.without(0, 7, 1 << one, one), Bench.HIDDEN);
            Bench.refused("itself among all", Bench::some, x -> x.without(0, 7, 31, one), Bench.HIDDEN);
            Bench.due("all others", Bench.some().without(0, 7, 31 - (1 << one), one) != Bench.HIDDEN, true);
        }
        for (int bit = 5; bit < 32; bit++) {
            int who = 1 << bit;
            Bench.refused("no such one: bit " + bit, Bench::some, x -> x.without(0, 7, who, 0), Bench.HIDDEN);
        }
    }

    private static void didAndLean() {
        Bench.sentence("Promises 13, 14: HIDDEN: no such ones, a SENT one");
        Call did = (x, a) -> x.did((int) a[0], a[1], (int) a[2]);
        edges("did", Bench::some, did, Bench.HIDDEN, new long[] {1, 7, 1}, within(0, 1), FREE, within(0, 4));
        edges("did", Bench::full, did, Bench.HIDDEN, new long[] {1, 7, 1}, within(0, 5), FREE, within(0, 9));
        refusedByAll("did", did, Bench.HIDDEN, 0, 7, 0);
        Bench.refused("did of a sent one", Bench::some, x -> x.did(0, 7, 2), Bench.HIDDEN);
        Call lean = (x, a) -> x.lean((int) a[0], a[1], (int) a[2], (int) a[3]);
        edges("lean", Bench::some, lean, Bench.HIDDEN, new long[] {1, 7, 1, 0}, within(0, 1), FREE, within(0, 4),
            within(0, 1));
        edges("lean", Bench::full, lean, Bench.HIDDEN, new long[] {1, 7, 1, 1}, within(0, 5), FREE, within(0, 9),
            within(0, 1));
        refusedByAll("lean", lean, Bench.HIDDEN, 0, 7, 0, 0);
        Bench.refused("lean of a sent one", Bench::some, x -> x.lean(0, 7, 2, 0), Bench.HIDDEN);
        Bench.refused("lean of a sent one", Bench::some, x -> x.lean(0, 7, 2, 1), Bench.HIDDEN);
    }

    private static void note() {
        Bench.sentence("Promise 15: kind 0 HELD (value, off), 1 in a HOUSE (value; NONE HOME). NONE: no such ones");
        Call call = (x, a) -> x.note((int) a[0], (int) a[1], (int) a[2], (int) a[3], (int) a[4]);
        edges("note of kind 0", Bench::some, call, Bench.NONE, new long[] {1, 7, 0, 3, 3}, within(0, 4),
            within(0, 48), within(0, 1), within(0, 100), within(0, 50));
        edges("note of kind 1", Bench::some, call, Bench.NONE, new long[] {1, 7, 1, 3, 0}, within(0, 4),
            within(0, 48), within(0, 1), within(-1, 3));
        refusedByAll("note", call, Bench.NONE, 0, 7, 0, 3, 0);
        refusedByAll("note", call, Bench.NONE, 0, 7, 1, 3, 0);
        Bench.due("home is nothing that is held", Bench.some().note(0, 0, 0, -1, 0), Bench.NONE);
    }

    private static void twentyNotes() {
        Bench.sentence("NOTES (20 at most): there are 20");
        NotEnded x = new NotEnded();
        x.person(0, 0, 0, false);
        for (int i = 1; i <= 20; i++) {
            Bench.due("note " + i, x.note(0, 48, i % 2, 0, 0), i);
            Bench.due("so many", x.count(4), i);
        }
        Bench.refused("a 21st", Bench::full, z -> z.note(0, 0, 0, 0, 0), Bench.NONE);
        Bench.refused("a 21st", Bench::full, z -> z.note(9, 48, 1, -1, 0), Bench.NONE);
    }

    private static void fits() {
        Bench.sentence("Promise 16: LAWS that FIT, as bits");
        for (Bench.Maker maker : new Bench.Maker[] {NotEnded::new, Bench::empty, Bench::some, Bench::full}) {
            for (long seed : new long[] {0, Long.MIN_VALUE, Long.MAX_VALUE}) {
                Bench.onlyAsks("fits", maker, x -> x.fits(seed, false));
                Bench.onlyAsks("fits alone", maker, x -> x.fits(seed, true));
                int laws = maker.make().count(0);
                Bench.due("no other bits", maker.make().fits(seed, false) >> laws, 0);
            }
        }
    }

    private static void books() {
        Bench.sentence("Promise 17: HIDDEN: no such ones");
        Call call = (x, a) -> x.books((int) a[0], a[1], (int) a[2]);
        edges("books", Bench::some, call, Bench.HIDDEN, new long[] {1, 7, 0}, within(0, 1), FREE, within(0, 1));
        edges("books", Bench::full, call, Bench.HIDDEN, new long[] {1, 7, 1}, within(0, 5), FREE, within(0, 1));
        refusedByAll("books", call, Bench.HIDDEN, 0, 7, 0);
    }

    private static NotEnded tenInHouses() {
        NotEnded x = Bench.withLaws("g:50", "g:100");
        for (int j = 0; j < 9; j++) {
            x.person(50, 10, j % 4, false);
        }
        return x;
    }

    private static void odds() {
        Bench.sentence("Promise 18: k (0 .. 8). NONE: no such ones, HOURS (0 .. 47), more than eight may");
        Call call = (x, a) -> x.odds((int) a[0], a[1], (int) a[2], (int) a[3]);
        edges("odds", Bench::some, call, Bench.NONE, new long[] {1, 7, 3, 1}, within(0, 1), FREE, within(0, 47),
            within(0, 8));
        edges("odds", Bench::full, call, Bench.NONE, new long[] {1, 7, 3, 1}, within(0, 5), FREE, within(0, 47),
            within(0, 8));
        refusedByAll("odds", call, Bench.NONE, 0, 7, 3, 1);
        for (int k = 0; k <= 8; k++) {
            int many = k;
            Bench.refused("nine may", NotEndedEdgesOfCalls::tenInHouses, x -> x.odds(0, 7, 0, many), Bench.NONE);
        }
        Bench.due("none may any more", tenInHouses().odds(1, 7, 1, 0), 1);
    }

    private static void lets() {
        Bench.sentence("Promise 19: NONE: no such ones");
        Call call = (x, a) -> x.lets((int) a[0], (int) a[1]);
        edges("lets", Bench::some, call, Bench.NONE, new long[] {1, 5}, within(0, 1), within(0, 31));
        edges("lets", Bench::full, call, Bench.NONE, new long[] {1, 5}, within(0, 7), within(0, 31));
        refusedByAll("lets", call, Bench.NONE, 0, 0);
    }

    private static void bars() {
        Bench.sentence("Promise 20: NONE: no such one");
        Call call = (x, a) -> x.bars((int) a[0]);
        edges("bars", Bench::some, call, Bench.NONE, new long[] {1}, within(0, 1));
        edges("bars", Bench::full, call, Bench.NONE, new long[] {1}, within(0, 7));
        refusedByAll("bars", call, Bench.NONE, 0);
    }

    private static void bolder() {
        Bench.sentence("Promise 21: NONE: no such ones");
        Call call = (x, a) -> x.bolder((int) a[0], (int) a[1]);
        edges("bolder", Bench::some, call, Bench.NONE, new long[] {1, 0}, within(0, 1), within(0, 1));
        edges("bolder", Bench::full, call, Bench.NONE, new long[] {1, 0}, within(0, 7), within(0, 7));
        refusedByAll("bolder", call, Bench.NONE, 0, 0);
        Bench.due("alike is refused by no word", Bench.some().bolder(1, 1), 0);
    }

    private static void say() {
        Bench.sentence("Promise 22: a TURNING (NONE: nothing, as at first). False: no such ones");
        Call call = (x, a) -> x.say((int) a[0], (int) a[1]) ? 1 : 0;
        edges("say", Bench::some, call, 0, new long[] {1, 0}, within(0, 4), within(-1, 1));
        edges("say", Bench::full, call, 0, new long[] {1, 0}, within(0, 9), within(-1, 7));
        refusedByAll("say", call, 0, 0, 0);
        refusedByAll("say nothing", call, 0, 0, -1);
        Bench.refused("say again is taken", Bench::some, x -> x.say(1, 1) ? 1 : 0, 1);
        Bench.refused("nothing as at first is taken", Bench::some, x -> x.say(4, -1) ? 1 : 0, 1);
    }

    private static void stayed() {
        Bench.sentence("Promise 23: NONE: no such ones");
        Call call = (x, a) -> x.stayed((int) a[0], a[1], (int) a[2]);
        edges("stayed", Bench::some, call, Bench.NONE, new long[] {1, 7, 5}, within(0, 1), FREE, within(0, 31));
        edges("stayed", Bench::full, call, Bench.NONE, new long[] {1, 7, 5}, within(0, 5), FREE, within(0, 31));
        refusedByAll("stayed", call, Bench.NONE, 0, 7, 0);
    }

    private static void act() {
        Bench.sentence("Promise 24: for a PERSON (not SENT), a COST (1 .. 50). NONE: no such ones");
        Call call = (x, a) -> x.act((int) a[0], (int) a[1], (int) a[2], (int) a[3]);
        edges("act of kind 0", Bench::some, call, Bench.NONE, new long[] {1, 0, 3, 3}, within(0, 4), within(0, 2),
            within(0, 99), within(1, 50));
        edges("act of kind 1", Bench::some, call, Bench.NONE, new long[] {1, 1, 3, 3}, within(0, 4), within(0, 2),
            within(0, 3), within(1, 50));
        edges("act of kind 2", Bench::some, call, Bench.NONE, new long[] {1, 2, 3, 3}, within(0, 4), within(0, 2),
            within(0, 4), within(1, 50));
        refusedByAll("act", call, Bench.NONE, 0, 0, 3, 3);
        for (int kind = 0; kind <= 2; kind++) {
            int such = kind;
            Bench.refused("for a sent one", Bench::some, x -> x.act(2, such, 1, 3), Bench.NONE);
        }
        for (int j = 0; j < 5; j++) {
            int one = j;
            Bench.refused("it itself is not there", Bench::some, x -> x.act(one, 2, one, 3), Bench.NONE);
        }
    }

    private static void sixActs() {
        Bench.sentence("ACTS (6 at most): there are six");
        NotEnded x = new NotEnded();
        x.person(0, 0, 0, false);
        x.person(0, 0, 0, false);
        for (int i = 0; i < 6; i++) {
            Bench.due("act " + i, x.act(i % 2, i % 3, 1 - i % 2, 50), i);
            Bench.due("so many", x.count(5), i + 1);
        }
        Bench.refused("a seventh", Bench::full, z -> z.act(0, 0, 0, 1), Bench.NONE);
        Bench.refused("a seventh, for one without acts", Bench::full, z -> z.act(9, 1, 3, 50), Bench.NONE);
        Bench.refused("a seventh", Bench::full, z -> z.act(8, 2, 0, 50), Bench.NONE);
    }

    private static NotEnded thatGaveUp(int laws, int persons) {
        NotEnded x = withTexts(laws, 0, "");
        for (int j = 1; j < persons; j++) {
            x.person(0, 0, 0, false);
        }
        return x;
    }

    private static void help() {
        Bench.sentence("Promise 25: NONE: none helps, no such ones");
        Call call = (x, a) -> x.help((int) a[0], a[1], (int) a[2], (int) a[3]);
        // here everybody gives up by every law, so that NONE can mean no such ones alone
        Bench.Maker some = () -> {
            NotEnded x = Bench.withLaws("y:0-1", "y:0-2");
            for (int j = 0; j < 5; j++) {
                x.person(50, 0, j % 4, false);
            }
            return x;
        };
        edges("help", some, call, Bench.NONE, new long[] {1, 7, 1, 0}, within(0, 1), FREE, within(0, 4),
            within(0, 1));
        Call cost = (x, a) -> x.help((int) a[0], a[1], (int) a[2], 1);
        edges("cost of help", some, cost, Bench.NONE, new long[] {1, 7, 1}, within(0, 1), FREE, within(0, 4));
        refusedByAll("help", call, Bench.NONE, 0, 7, 0, 0);
        Bench.refused("no such law", () -> thatGaveUp(6, 10), x -> x.help(6, 7, 9, 0), Bench.NONE);
        Bench.refused("no such one", () -> thatGaveUp(6, 10), x -> x.help(5, 7, 10, 0), Bench.NONE);
    }

    private static void lookers() {
        Bench.sentence("Promise 26: NONE: no such LAW");
        Call call = (x, a) -> x.lookers((int) a[0], a[1]);
        edges("lookers", Bench::some, call, Bench.NONE, new long[] {1, 7}, within(0, 1));
        edges("lookers", Bench::full, call, Bench.NONE, new long[] {1, 7}, within(0, 5));
        refusedByAll("lookers", call, Bench.NONE, 0, 7);
    }

    private static void count() {
        Bench.sentence("Promise 27: NONE for others");
        for (Bench.Maker maker : new Bench.Maker[] {NotEnded::new, Bench::empty, Bench::some, Bench::full}) {
            Call call = (x, a) -> x.count((int) a[0]);
            edges("count", maker, call, Bench.NONE, new long[] {3}, within(0, 6));
        }
        int[] full = {6, 8, 10, 4, 20, 6, 120};
        int[] some = {2, 2, 5, 2, 2, 3, 7};
        for (int what = 0; what <= 6; what++) {
            Bench.due("the most of " + what, Bench.full().count(what), full[what]);
            Bench.due("some of " + what, Bench.some().count(what), some[what]);
        }
    }

    private static void askingChangesNothing() {
        Bench.sentence("what is only asked changes nothing");
        for (Bench.Maker maker : new Bench.Maker[] {Bench::some, Bench::full}) {
            for (int what = 0; what <= 2; what++) {
                int which = what;
                int half = what / 2;
                Bench.onlyAsks("worth", maker, x -> Bench.worth(x, 1, which, 1));
                Bench.onlyAsks("run", maker, x -> x.run(1, 99, 48, 1, which));
                Bench.onlyAsks("all", maker, x -> x.all(1, 99, 48, half));
                Bench.onlyAsks("lean", maker, x -> x.lean(1, 99, 1, half));
                Bench.onlyAsks("books", maker, x -> x.books(1, 99, half));
                Bench.onlyAsks("help", maker, x -> x.help(1, 99, 0, half));
            }
            Bench.onlyAsks("without", maker, x -> x.without(1, 99, 13, 1));
            Bench.onlyAsks("did", maker, x -> x.did(1, 99, 1));
            Bench.onlyAsks("fits", maker, x -> x.fits(99, false));
            Bench.onlyAsks("odds", maker, x -> x.odds(1, 99, 5, 1));
            Bench.onlyAsks("lets", maker, x -> x.lets(1, 9));
            Bench.onlyAsks("bars", maker, x -> x.bars(1));
            Bench.onlyAsks("bolder", maker, x -> x.bolder(1, 0));
            Bench.onlyAsks("stayed", maker, x -> x.stayed(1, 99, 31));
            Bench.onlyAsks("lookers", maker, x -> x.lookers(1, 99));
            Bench.onlyAsks("count", maker, x -> x.count(2));
        }
    }

    private static void whatIsTakenIsSeen() {
        Bench.sentence("what is taken changes what is answered, so that it would be seen if a refused call did");
        Bench.seenToBeTaken("feed", Bench::some, x -> x.feed(0x2b310000, 0, 0, 0, 0), 9);
        Bench.seenToBeTaken("end", Bench::some, x -> x.end(5) ? 1 : 0, 1);
        Bench.seenToBeTaken("text", Bench::some, x -> x.text(0), 2);
        Bench.seenToBeTaken("person", Bench::some, x -> x.person(50, 50, 0, false), 5);
        Bench.seenToBeTaken("know", Bench::some, x -> x.know(3, 4) ? 1 : 0, 1);
        Bench.seenToBeTaken("word", Bench::some, x -> x.word(1), 3);
        Bench.seenToBeTaken("note", Bench::some, x -> x.note(0, 0, 0, 0, 0), 3);
        Bench.seenToBeTaken("say", Bench::some, x -> x.say(0, 1) ? 1 : 0, 1);
        Bench.seenToBeTaken("say nothing", Bench::some, x -> x.say(1, -1) ? 1 : 0, 1);
        Bench.seenToBeTaken("act", Bench::some, x -> x.act(0, 1, 1, 1), 3);
        Bench.seenToBeTaken("end of a full tape", Bench::full, x -> x.end(119) ? 1 : 0, 1);
        Bench.seenToBeTaken("say in a full object", Bench::full, x -> x.say(0, 7) ? 1 : 0, 1);
    }

    private static void manyCalls() {
        Bench.sentence("An object is used for at most 512 calls");
        NotEnded x = Bench.withLaws("y:1;g:5;x:1");
        x.person(3, 4, 0, false);
        x.person(3, 4, 0, true);
        int calls = 5;
        for (; calls < 511; calls++) {
            switch (calls % 5) {
                case 0 -> Bench.due("feed", x.feed(0x20, 0x20, 0, 0, 0) != 0, true);
                case 1 -> Bench.due("end", x.end(0), true);
                case 2 -> Bench.due("text", x.text(0), Bench.NONE);
                case 3 -> Bench.due("lookers", x.lookers(0, calls), 2);
                default -> Bench.due("a refused one", x.person(101, 0, 0, false), Bench.NONE);
            }
        }
        Bench.due("the 512th", x.run(0, 0, 48, 0, 0), 51);
    }

    /** No call may throw anything but what is promised, whatever comes together. */
    private static void anyArguments() {
        Bench.sentence("A call of the face throws exactly what and where the document says, and nothing else");
        int[] edges = {Integer.MIN_VALUE, -1001, -1000, -2, -1, 0, 1, 2, 3, 4, 5, 6, 7, 8, 9, 10, 19, 20, 31, 32, 47,
            48, 49, 50, 51, 99, 100, 101, 120, 121, 1023, 1024, Integer.MAX_VALUE};
        long[] seeds = {Long.MIN_VALUE, -1, 0, 1, Long.MAX_VALUE};
        for (Bench.Maker maker : new Bench.Maker[] {NotEnded::new, Bench::empty, Bench::some, Bench::full}) {
            for (int round = 0; round < 60; round++) {
                NotEnded x = maker.make();
                for (int call = 0; call < 120; call++) {
                    int draw = round * 120 + call;
                    long next = Bench.drawn(draw, 3);
                    int[] a = new int[5];
                    for (int i = 0; i < 5; i++) {
                        a[i] = edges[(int) ((next * 7 + Bench.drawn(draw, i + 4)) % edges.length)];
                    }
                    anyCall(x, call % 27, a, seeds[draw % 5]);
                }
                Bench.due("it still counts", x.count(2) >= 0 && x.count(2) <= 10, true);
            }
        }
    }

    private static void anyCall(NotEnded x, int which, int[] a, long seed) {
        switch (which) {
            case 0 -> x.feed(a[0], a[1], a[2], a[3], a[4]);
            case 1 -> x.end(a[0]);
            case 2 -> x.fault(a[0]);
            case 3 -> x.text(a[0]);
            case 4 -> x.person(a[0], a[1], a[2], a[3] < 0);
            case 5 -> x.know(a[0], a[1]);
            case 6 -> x.word(a[0]);
            case 7 -> Bench.worth(x, a[0], a[1], a[2]);
            case 8 -> x.run(a[0], seed, a[1], a[2], a[3]);
            case 9 -> x.all(a[0], seed, a[1], a[2]);
            case 10 -> x.without(a[0], seed, a[1], a[2]);
            case 11 -> x.did(a[0], seed, a[1]);
            case 12 -> x.lean(a[0], seed, a[1], a[2]);
            case 13 -> x.note(a[0], a[1], a[2], a[3], a[4]);
            case 14 -> x.fits(seed, a[0] < 0);
            case 15 -> x.books(a[0], seed, a[1]);
            case 16 -> x.odds(a[0], seed, a[1], a[2]);
            case 17 -> x.lets(a[0], a[1]);
            case 18 -> x.bars(a[0]);
            case 19 -> x.bolder(a[0], a[1]);
            case 20 -> x.say(a[0], a[1]);
            case 21 -> x.stayed(a[0], seed, a[1]);
            case 22 -> x.act(a[0], a[1], a[2], a[3]);
            case 23 -> x.help(a[0], seed, a[1], a[2]);
            case 24 -> x.lookers(a[0], seed);
            case 25 -> x.lookers(Math.floorMod(a[0], 6), seed);
            default -> x.count(a[0]);
        }
    }

    private static void objectsAreApart() {
        Bench.sentence("what is told to one object is not told to another");
        NotEnded one = new NotEnded();
        NotEnded other = new NotEnded();
        Bench.feed(one, "y:1");
        Bench.due("the other's tape", other.count(6), 0);
        one.text(0);
        one.person(1, 1, 1, false);
        one.word(1);
        one.note(0, 0, 0, 0, 0);
        one.act(0, 0, 0, 1);
        for (int what = 0; what <= 6; what++) {
            Bench.due("the other's count " + what, other.count(what), 0);
        }
        Bench.law(other, "y:9");
        other.person(60, 0, 0, false);
        Bench.due("each by its own law", one.run(0, 0, 1, 0, 0), 2);
        Bench.due("each by its own law", other.run(0, 0, 1, 0, 0), 69);
    }
}
