import java.util.NoSuchElementException;
import java.util.Random;

/** Drawn runs of calls (always the same ones): the class must answer as PlainNotEnded does. */
public final class NotEndedAgainstPlain {
    private static final int OBJECTS = 100;
    private static final int CALLS = 512;
    private static final int FAULTS = 4000;

    private static int wrong = 0;

    private final Random random;
    private final NotEnded real = new NotEnded();
    private final PlainNotEnded plain = new PlainNotEnded();
    private final StringBuilder told = new StringBuilder();

    private NotEndedAgainstPlain(long seed) {
        random = new Random(seed);
    }

    public static void main(String[] args) {
        for (int i = 0; i < OBJECTS && wrong == 0; i++) {
            new NotEndedAgainstPlain(i).drive();
        }
        for (int i = 0; i < FAULTS && wrong < 10; i++) {
            new NotEndedAgainstPlain(1_000_000 + i).compareFault();
        }
        System.out.println(wrong == 0 ? "all answers are as the plain one's" : wrong + " answers are not");
        if (wrong != 0) {
            System.exit(1);
        }
    }

    private void due(String call, long got, long want) {
        told.append(call).append(" = ").append(want).append('\n');
        if (got != want) {
            wrong++;
            System.out.println(told + "but the class answered " + got);
        }
    }

    // ---- texts ----

    private int upTo(int most) {
        return random.nextInt(most + 1);
    }

    private String blank() {
        return random.nextInt(12) == 0 ? " " : "";
    }

    private String atom(int sort, int depth) {
        String letters = PlainNotEnded.LETTERS[sort];
        int draw = random.nextInt(10);
        if (draw < 5) {
            return blank() + letters.charAt(random.nextInt(letters.length())) + blank();
        }
        if (draw < 9 || depth == 0) {
            int[] mosts = {3, 9, 60, 9999};
            return blank() + upTo(mosts[random.nextInt(4)]) + blank();
        }
        return "[" + sum(sort, depth - 1) + "]";
    }

    private String sum(int sort, int depth) {
        StringBuilder text = new StringBuilder(atom(sort, depth));
        for (int i = random.nextInt(3); i > 0; i--) {
            text.append("++--*/".charAt(random.nextInt(6))).append(atom(sort, depth));
        }
        return text.toString();
    }

    private String unit(int sort, int depth) {
        int draw = depth == 0 ? 9 : random.nextInt(8);
        if (draw == 0) {
            return "!" + unit(sort, depth - 1);
        }
        if (draw == 1) {
            return "(" + condition(sort, depth - 1) + ")";
        }
        return sum(sort, depth) + "=<>".charAt(random.nextInt(3)) + sum(sort, depth);
    }

    private String condition(int sort, int depth) {
        StringBuilder text = new StringBuilder(unit(sort, depth));
        while (random.nextInt(3) == 0 && text.length() < 40) {
            text.append("&|".charAt(random.nextInt(2))).append(unit(sort, depth));
        }
        return text.toString();
    }

    private String clause(int sort) {
        String labels = PlainNotEnded.LABELS[sort];
        String condition = random.nextInt(2) == 0 ? "" : condition(sort, 3) + "?" + blank();
        return blank() + labels.charAt(random.nextInt(labels.length())) + blank() + ":" + condition + sum(sort, 2);
    }

    private String text(int sort) {
        StringBuilder text = new StringBuilder(clause(sort));
        for (int i = random.nextInt(4); i > 0; i--) {
            text.append(';').append(clause(sort));
        }
        return text.length() <= 120 ? text.toString() : text(sort);
    }

    private String smallSum() {
        String[] parts = {"1", "2", "3", "4", "5", "[m-v]/7", "[v-50]/9", "[50-v]/9", "p/15", "p/30", "n", "n/2", "s",
            "s*2", "u", "u*2", "d/5", "i/12", "v/25", "m/25"};
        StringBuilder text = new StringBuilder(random.nextBoolean() ? "0" : parts[random.nextInt(parts.length)]);
        for (int i = random.nextInt(3); i > 0; i--) {
            text.append("+-".charAt(random.nextInt(2))).append(parts[random.nextInt(parts.length)]);
        }
        return text.toString();
    }

    private String oftenChanging() {
        String[] conditions = {"v<50", "v>49", "v<20", "n=0", "n>2&s=0", "s>0", "!s=0", "(s>0|u=1)", "u>1", "d>3",
            "i<9", "i>20", "m>v", "p>40"};
        return conditions[random.nextInt(conditions.length)] + "?";
    }

    /** Laws under which much happens, which drawn texts seldom are: what is held moves slowly, and some go. */
    private String livelyLaw() {
        StringBuilder text = new StringBuilder();
        for (String label : new String[] {"y:", "y:", "g:", "x:"}) {
            if (random.nextInt(9) > 0) {
                text.append(text.isEmpty() ? "" : ";").append(label);
                text.append(random.nextInt(3) == 0 ? oftenChanging() : "").append(smallSum());
            }
        }
        return text.isEmpty() || text.length() > 120 ? livelyLaw() : text.toString();
    }

    private String spoiled(String text) {
        StringBuilder spoiled = new StringBuilder(text);
        String signs = "ygxwvpnmsudiabcde0123456789:;?!&|=<>+-*/()[] \u00e9\u0001";
        for (int i = random.nextInt(3); i >= 0; i--) {
            int at = random.nextInt(spoiled.length());
            char sign = signs.charAt(random.nextInt(signs.length()));
            switch (random.nextInt(4)) {
                case 0 -> spoiled.setCharAt(at, sign);
                case 1 -> spoiled.insert(at, sign);
                case 2 -> spoiled.deleteCharAt(at);
                default -> spoiled.setLength(at);
            }
            if (spoiled.isEmpty()) {
                spoiled.append(sign);
            }
        }
        return spoiled.length() > 120 ? spoiled.substring(0, 120) : spoiled.toString();
    }

    private String nested() {
        StringBuilder text = new StringBuilder(random.nextBoolean() ? "y:" : "y:1<");
        String open = random.nextBoolean() ? "([!" : random.nextBoolean() ? "(!" : "[";
        for (int i = 3 + random.nextInt(6); i > 0; i--) {
            text.append(open.charAt(random.nextInt(open.length()))).append(blank());
        }
        return text.append(clause(0).substring(2)).toString();
    }

    private void feedText(String text) {
        for (int at = 0; at < text.length(); at += 20) {
            int[] n = new int[5];
            for (int i = 0; i < 20 && at + i < text.length(); i++) {
                n[i / 4] |= text.charAt(at + i) << 24 - i % 4 * 8;
            }
            due("feed " + text.substring(at, Math.min(at + 20, text.length())),
                    real.feed(n[0], n[1], n[2], n[3], n[4]), plain.feed(n));
        }
    }

    private void compareFault() {
        int sort = random.nextInt(2);
        String text = random.nextInt(4) == 0 ? nested() : spoiled(text(sort));
        feedText(text.length() > 120 ? text.substring(0, 120) : text);
        due("fault(" + sort + ")", real.fault(sort), plain.fault(sort));
        due("fault(" + (1 - sort) + ")", real.fault(1 - sort), plain.fault(1 - sort));
    }

    // ---- calls ----

    /** A number that mostly is within 0 .. most, at times just outside, at times far. */
    private int near(int most) {
        int draw = random.nextInt(40);
        if (draw < 36) {
            return upTo(Math.max(0, most));
        }
        return draw == 36 ? -1 : draw == 37 ? most + 1 : random.nextInt();
    }

    private int law() {
        return near(plain.laws.size() - 1);
    }

    private int somebody() {
        return near(plain.persons.size() - 1);
    }

    private int turning() {
        return near(plain.turnings.size() - 1);
    }

    private long seed() {
        return random.nextInt(3) == 0 ? random.nextLong() : random.nextInt(4);
    }

    private void drive() {
        int sentOf = 1 + random.nextInt(5);
        for (int call = 0; call < CALLS && wrong == 0; call++) {
            if (random.nextInt(call < 100 ? 2 : 12) == 0) {
                tellSomething(sentOf);
            } else {
                askSomething(random.nextInt(27));
            }
        }
    }

    private void tellSomething(int sentOf) {
        switch (random.nextInt(9)) {
            case 0, 1 -> {
                int sort = random.nextInt(2);
                due("end(0)", real.end(0) ? 1 : 0, plain.end(0) ? 1 : 0);
                String text = sort == 0 && random.nextInt(4) > 0 ? livelyLaw() : text(sort);
                feedText(random.nextInt(5) == 0 ? spoiled(text) : text);
                due("fault(" + sort + ")", real.fault(sort), plain.fault(sort));
                due("text(" + sort + ")", real.text(sort), plain.text(sort));
            }
            case 2, 3 -> {
                int holds = near(100);
                int putIn = near(99);
                int house = near(random.nextBoolean() ? 1 : 3);
                boolean sent = random.nextInt(sentOf) == 0;
                due("person(" + holds + ", " + putIn + ", " + house + ", " + sent + ")",
                        real.person(holds, putIn, house, sent), plain.person(holds, putIn, house, sent));
            }
            case 4 -> {
                int one = somebody();
                int other = somebody();
                due("know(" + one + ", " + other + ")", real.know(one, other) ? 1 : 0, plain.know(one, other) ? 1 : 0);
            }
            case 5 -> {
                int hour = near(random.nextBoolean() ? 5 : 47);
                due("word(" + hour + ")", real.word(hour), plain.word(hour));
            }
            case 6 -> tellNote();
            case 7 -> {
                int one = somebody();
                int said = random.nextInt(6) == 0 ? -1 : turning();
                due("say(" + one + ", " + said + ")", real.say(one, said) ? 1 : 0, plain.say(one, said) ? 1 : 0);
            }
            default -> {
                int one = somebody();
                int kind = near(2);
                int x = kind == 0 ? near(99) : kind == 1 ? near(3) : somebody();
                int cost = random.nextBoolean() ? near(50) : 1 + random.nextInt(3);
                due("act(" + one + ", " + kind + ", " + x + ", " + cost + ")",
                        real.act(one, kind, x, cost), plain.act(one, kind, x, cost));
            }
        }
    }

    private void tellNote() {
        int one = somebody();
        int hour = near(48);
        int kind = near(1);
        int value = kind == 0 ? near(100) : near(3);
        int off = near(50);
        if (random.nextInt(3) > 0 && plain.laws.size() > 0 && plain.persons.size() > 0) {
            // what a law does, so that some laws fit
            one = random.nextInt(plain.persons.size());
            hour = upTo(48);
            kind = random.nextInt(2);
            value = plain.run(random.nextInt(plain.laws.size()), 1, hour, one, kind);
        }
        due("note(" + one + ", " + hour + ", " + kind + ", " + value + ", " + off + ")",
                real.note(one, hour, kind, value, off), plain.note(one, hour, kind, value, off));
    }

    private void askSomething(int which) {
        int law = law();
        int one = somebody();
        long seed = seed();
        String of = "(" + law + ", " + seed + ", ";
        switch (which) {
            case 0 -> askTape();
            case 1, 2 -> askWorth(law, near(2), one);
            case 3, 4, 5, 6 -> {
                int hours = near(48);
                int what = near(2);
                due("run" + of + hours + ", " + one + ", " + what + ")",
                        real.run(law, seed, hours, one, what), plain.run(law, seed, hours, one, what));
            }
            case 7, 8 -> {
                int hours = near(48);
                int what = near(1);
                due("all" + of + hours + ", " + what + ")",
                        real.all(law, seed, hours, what), plain.all(law, seed, hours, what));
            }
            case 9, 10 -> {
                int who = near((1 << plain.persons.size()) - 1);
                due("without" + of + who + ", " + one + ")",
                        real.without(law, seed, who, one), plain.without(law, seed, who, one));
            }
            case 11 -> due("did" + of + one + ")", real.did(law, seed, one), plain.did(law, seed, one));
            case 12, 13 -> {
                int what = near(1);
                due("lean" + of + one + ", " + what + ")",
                        real.lean(law, seed, one, what), plain.lean(law, seed, one, what));
            }
            case 14, 15 -> {
                boolean alone = random.nextBoolean();
                long by = random.nextInt(3) > 0 ? 1 : seed;
                due("fits(" + by + ", " + alone + ")", real.fits(by, alone), plain.fits(by, alone));
            }
            case 16 -> {
                int what = near(1);
                due("books" + of + what + ")", real.books(law, seed, what), plain.books(law, seed, what));
            }
            default -> askMore(which, law, seed, one, of);
        }
    }

    private void askTape() {
        int n = near(plain.tape.length());
        int sort = near(1);
        due("end(" + n + ")", real.end(n) ? 1 : 0, plain.end(n) ? 1 : 0);
        due("fault(" + sort + ")", real.fault(sort), plain.fault(sort));
        int[] fed = {random.nextInt(), 0, random.nextInt() & 0xff00ff, 32, random.nextInt()};
        due("feed", real.feed(fed[0], fed[1], fed[2], fed[3], fed[4]), plain.feed(fed));
    }

    private void askWorth(int law, int label, int one) {
        long got;
        try {
            got = real.worth(law, label, one);
        } catch (NoSuchElementException e) {
            got = Long.MIN_VALUE;
        }
        due("worth(" + law + ", " + label + ", " + one + ")", got, plain.worth(law, label, one));
    }

    private void askMore(int which, int law, long seed, int one, String of) {
        int turning = turning();
        int outcome = near(31);
        int what = near(1);
        switch (which) {
            case 17, 18 -> {
                int hours = near(47);
                int k = near(8);
                due("odds" + of + hours + ", " + k + ")",
                        real.odds(law, seed, hours, k), plain.odds(law, seed, hours, k));
            }
            case 19 -> due("lets(" + turning + ", " + outcome + ")",
                    real.lets(turning, outcome), plain.lets(turning, outcome));
            case 20 -> due("bars(" + turning + ")", real.bars(turning), plain.bars(turning));
            case 21 -> {
                int other = turning();
                due("bolder(" + turning + ", " + other + ")",
                        real.bolder(turning, other), plain.bolder(turning, other));
            }
            case 22 -> due("stayed" + of + outcome + ")",
                    real.stayed(law, seed, outcome), plain.stayed(law, seed, outcome));
            case 23, 24 -> {
                int whom = !plain.acts.isEmpty() && random.nextInt(3) > 0
                        ? plain.acts.get(random.nextInt(plain.acts.size())).person() : one;
                due("help" + of + whom + ", " + what + ")",
                        real.help(law, seed, whom, what), plain.help(law, seed, whom, what));
            }
            case 25 -> {
                if (Integer.bitCount(plain.sentBits()) < 6) {
                    due("lookers" + of + ")", real.lookers(law, seed), plain.lookers(law, seed));
                }
            }
            default -> {
                int of6 = near(6);
                due("count(" + of6 + ")", real.count(of6), plain.count(of6));
            }
        }
    }
}
