import java.util.ArrayList;
import java.util.List;
import java.util.NoSuchElementException;

/** What the tests of the edges share: telling, asking, and a look at everything that an object can answer. */
final class Bench {
    interface Maker {
        NotEnded make();
    }

    interface Ask {
        long of(NotEnded x);
    }

    static final int NONE = -1;
    static final int HIDDEN = -1000;
    static final int NO_SORT = -2;
    static final long THROWN = Long.MIN_VALUE;

    private static final long SEED = 7;

    private static String sentence = "";
    private static int sentences = 0;
    private static int wrong = 0;

    private Bench() {
    }

    /** The sentence of the document that the answers from here on are due by. */
    static void sentence(String words) {
        sentence = words;
        sentences++;
    }

    static void due(String what, long got, long want) {
        if (got != want) {
            wrong++;
            System.out.println("'" + sentence + "': " + what + " answered " + got + ", due is " + want);
        }
    }

    static void due(String what, boolean got, boolean want) {
        due(what, got ? 1 : 0, want ? 1 : 0);
    }

    static void close() {
        System.out.println(wrong == 0 ? sentences + " sentences hold" : wrong + " answers are not as due");
        if (wrong != 0) {
            System.exit(1);
        }
    }

    // ---- telling ----

    static int feed(NotEnded x, String text) {
        int last = x.count(6);
        for (int at = 0; at < text.length(); at += 20) {
            int[] n = new int[5];
            for (int i = 0; i < 20 && at + i < text.length(); i++) {
                n[i / 4] |= text.charAt(at + i) << 24 - i % 4 * 8;
            }
            last = x.feed(n[0], n[1], n[2], n[3], n[4]);
        }
        return last;
    }

    static int law(NotEnded x, String text) {
        x.end(0);
        feed(x, text);
        return x.text(0);
    }

    static int turning(NotEnded x, String text) {
        x.end(0);
        feed(x, text);
        return x.text(1);
    }

    static NotEnded withLaws(String... texts) {
        NotEnded x = new NotEnded();
        for (int i = 0; i < texts.length; i++) {
            due("law " + texts[i], law(x, texts[i]), i);
        }
        return x;
    }

    static NotEnded withTurnings(String... texts) {
        NotEnded x = new NotEnded();
        for (int i = 0; i < texts.length; i++) {
            due("turning " + texts[i], turning(x, texts[i]), i);
        }
        return x;
    }

    static long worth(NotEnded x, int law, int label, int person) {
        try {
            return x.worth(law, label, person);
        } catch (NoSuchElementException e) {
            return THROWN;
        }
    }

    /** What a run draws for the nth of those who draw, of 0 .. 99. */
    static int drawn(long seed, int nth) {
        long x = seed;
        for (int i = 0; i <= nth; i++) {
            x = x * 6364136223846793005L + 1442695040888963407L;
        }
        return (int) ((x >>> 33) % 100);
    }

    // ---- whether something has changed ----

    /** Nothing told, but for a text that waits on the tape. */
    static NotEnded empty() {
        NotEnded x = new NotEnded();
        feed(x, "y:v*2+p");
        return x;
    }

    /** Something of everything, and room for more. */
    static NotEnded some() {
        NotEnded x = new NotEnded();
        law(x, "y:u*3-d-1;g:p/9+n*4;x:i+2");
        law(x, "y:m/9-s*2;g:u*20;x:0-p/4");
        turning(x, "w:a*b+c");
        turning(x, "w:d=1|e=0?1");
        x.person(52, 20, 0, false);
        x.person(70, 40, 1, false);
        x.person(30, 10, 1, true);
        x.person(45, 99, 0, false);
        x.person(15, 30, 2, false);
        x.know(0, 1);
        x.know(1, 3);
        x.know(4, 0);
        x.word(3);
        x.word(9);
        x.say(0, 0);
        x.say(1, 1);
        x.say(3, 0);
        x.note(0, 0, 0, 50, 3);
        x.note(4, 0, 1, 2, 0);
        x.act(0, 0, 20, 6);
        x.act(0, 1, 3, 4);
        x.act(3, 2, 0, 9);
        feed(x, "y:v*2+p");
        return x;
    }

    /** As much of everything as there may be. */
    static NotEnded full() {
        NotEnded x = new NotEnded();
        for (int i = 0; i < 6; i++) {
            law(x, "y:u*2-" + i + ";g:p/7;x:d-" + i);
        }
        for (int i = 0; i < 8; i++) {
            turning(x, "w:a+b*2+c*3+d>" + i + "?1");
        }
        for (int j = 0; j < 10; j++) {
            x.person(95 - j * 9, j * 11, j % 4, j % 4 == 3);
            x.say(j, j % 8);
        }
        for (int j = 0; j < 9; j++) {
            x.know(j, j + 1);
        }
        for (int i = 0; i < 4; i++) {
            x.word(i * 11);
        }
        for (int i = 0; i < 20; i++) {
            x.note(i / 2, i % 3, 0, 95 - i / 2 * 9, 12);
        }
        for (int i = 0; i < 6; i++) {
            x.act(i / 2 * 2, i % 3, i % 3 == 2 ? 9 : i % 4, i + 5);
        }
        feed(x, "y:" + "1+".repeat(59));
        return x;
    }

    /** What an object answers to all that can be asked; it is told more in the end, so it is used up then. */
    static List<Long> everything(NotEnded x) {
        List<Long> seen = new ArrayList<>();
        for (int what = 0; what <= 6; what++) {
            seen.add((long) x.count(what));
        }
        for (int law = 0; law < x.count(0); law++) {
            seeLaw(x, law, seen);
        }
        for (int person = 0; person < x.count(2); person++) {
            seePerson(x, person, seen);
        }
        for (int turning = 0; turning < x.count(1); turning++) {
            seen.add((long) x.bars(turning));
            seen.add((long) x.lets(turning, 5));
        }
        for (int outcome = 0; outcome < 32; outcome += 5) {
            seen.add((long) x.stayed(0, SEED, outcome));
        }
        seen.add((long) x.fits(SEED, false));
        seen.add((long) x.fits(SEED, true));
        seeTape(x, seen);
        seeWhatComesNext(x, seen);
        return seen;
    }

    private static void seeLaw(NotEnded x, int law, List<Long> seen) {
        for (int what = 0; what <= 1; what++) {
            seen.add((long) x.all(law, SEED, 20, what));
            seen.add((long) x.books(law, SEED, what));
        }
        seen.add((long) x.lookers(law, SEED));
        seen.add(x.odds(law, SEED, 3, 1));
        for (int label = 0; label <= 2; label++) {
            seen.add(worth(x, law, label, 0));
        }
    }

    private static void seePerson(NotEnded x, int person, List<Long> seen) {
        for (int what = 0; what <= 2; what++) {
            seen.add((long) x.run(0, SEED, 12, person, what));
        }
        for (int what = 0; what <= 1; what++) {
            seen.add((long) x.help(0, SEED, person, what));
        }
        seen.add((long) x.run(0, SEED, 0, person, 0));
        seen.add((long) x.did(0, SEED, person));
        seen.add((long) x.lean(0, SEED, person, 0));
    }

    private static void seeTape(NotEnded x, List<Long> seen) {
        for (int sort = 0; sort <= 1; sort++) {
            seen.add((long) x.fault(sort));
        }
        seen.add((long) x.text(0));
        seen.add(worth(x, x.count(0) - 1, 0, 0));
        seen.add((long) x.count(6));
        for (int n = x.count(6); n > 0; n -= 13) {
            seen.add(x.end(n) ? 1L : 0L);
            seen.add((long) x.fault(0));
        }
    }

    private static void seeWhatComesNext(NotEnded x, List<Long> seen) {
        seen.add((long) x.feed(0x79, 0x3a, 0x31, 0, 0));
        seen.add((long) x.person(33, 44, 2, false));
        seen.add((long) x.word(30));
        seen.add((long) x.note(0, 1, 0, 50, 50));
        seen.add((long) x.act(0, 0, 1, 1));
        for (int what = 0; what <= 6; what++) {
            seen.add((long) x.count(what));
        }
    }

    /** A call that is refused answers as told and changes nothing, whatever was told before. */
    static void refused(String what, Maker maker, Ask call, long want) {
        NotEnded x = maker.make();
        due(what, call.of(x), want);
        due(what + " changed something: places", differs(maker, x), 0);
    }

    /** A call that only asks changes nothing. */
    static void onlyAsks(String what, Maker maker, Ask call) {
        NotEnded x = maker.make();
        long first = call.of(x);
        due(what + " asked again", call.of(x), first);
        due(what + " changed something: places", differs(maker, x), 0);
    }

    /** A call that is taken is seen: else it could not be seen that a refused one changes nothing. */
    static void seenToBeTaken(String what, Maker maker, Ask call, long want) {
        NotEnded x = maker.make();
        due(what, call.of(x), want);
        due(what + " is seen", differs(maker, x) > 0, true);
    }

    private static int differs(Maker maker, NotEnded x) {
        List<Long> before = everything(maker.make());
        List<Long> after = everything(x);
        int found = Math.abs(before.size() - after.size());
        for (int i = 0; i < before.size() && i < after.size(); i++) {
            if (!before.get(i).equals(after.get(i))) {
                found++;
            }
        }
        return found;
    }
}
