import java.util.ArrayList;
import java.util.Arrays;
import java.util.List;
import java.util.TreeSet;
import java.util.function.ToIntFunction;

/**
 * The document once more, written for plainness alone and by other means than the class: texts are kept as strings,
 * the FAULT is found by trying every reading of every beginning, runs keep every hour. The class is held against it.
 */
final class PlainNotEnded {
    static final int NONE = -1;
    static final int HIDDEN = -1000;
    static final String[] LABELS = {"ygx", "w"};
    static final String[] LETTERS = {"vpnmsudi", "abcde"};

    record Person(int holds, int putIn, int house, boolean sent, TreeSet<Integer> knows) { }
    record Note(int person, int hour, int kind, int value, int off) { }
    record Act(int person, int kind, int x, int cost) { }

    /** What a run is varied by. */
    static final class Change {
        TreeSet<Integer> gone = new TreeSet<>();
        int of = NONE;
        int putIn;
        int place;
    }

    /** As an hour begins. */
    record State(int[] held, int[] place, int[] told, long x) { }

    final StringBuilder tape = new StringBuilder();
    final List<String> laws = new ArrayList<>();
    final List<String> turnings = new ArrayList<>();
    final List<Person> persons = new ArrayList<>();
    final List<Integer> words = new ArrayList<>();
    final List<Note> notes = new ArrayList<>();
    final List<Act> acts = new ArrayList<>();
    final int[] said = new int[10];

    PlainNotEnded() {
        Arrays.fill(said, NONE);
    }

    // ---- reading by trying every way ----

    /** All places at which a reading of something from a place may end; sets wanted, if the text ends first. */
    static final class Ways {
        final String text;
        final int sort;
        boolean wanted = false;

        Ways(String text, int sort) {
            this.text = text;
            this.sort = sort;
        }

        int blanks(int at) {
            while (at < text.length() && text.charAt(at) == ' ') {
                at++;
            }
            return at;
        }

        TreeSet<Integer> one(TreeSet<Integer> from, String signs) {
            TreeSet<Integer> ends = new TreeSet<>();
            for (int start : from) {
                int at = blanks(start);
                if (at == text.length()) {
                    wanted = true;
                } else if (signs.indexOf(text.charAt(at)) >= 0) {
                    ends.add(at + 1);
                }
            }
            return ends;
        }

        TreeSet<Integer> number(TreeSet<Integer> from) {
            TreeSet<Integer> ends = new TreeSet<>();
            for (int start : from) {
                int at = blanks(start);
                if (at == text.length()) {
                    wanted = true;
                }
                for (int n = 1; n <= 4 && at + n <= text.length() && Character.isDigit(text.charAt(at + n - 1)); n++) {
                    ends.add(at + n);
                }
            }
            return ends;
        }

        TreeSet<Integer> atom(TreeSet<Integer> from, int depth) {
            TreeSet<Integer> ends = number(from);
            ends.addAll(one(from, LETTERS[sort]));
            if (depth < 6) {
                TreeSet<Integer> inside = one(from, "[");
                if (!inside.isEmpty()) {
                    ends.addAll(one(sum(inside, depth + 1), "]"));
                }
            }
            return ends;
        }

        TreeSet<Integer> term(TreeSet<Integer> from, int depth) {
            TreeSet<Integer> ends = new TreeSet<>();
            for (TreeSet<Integer> now = atom(from, depth); !now.isEmpty(); now = more(now, "*/", 0, depth)) {
                ends.addAll(now);
            }
            return ends;
        }

        TreeSet<Integer> sum(TreeSet<Integer> from, int depth) {
            TreeSet<Integer> ends = new TreeSet<>();
            for (TreeSet<Integer> now = term(from, depth); !now.isEmpty(); now = more(now, "+-", 1, depth)) {
                ends.addAll(now);
            }
            return ends;
        }

        TreeSet<Integer> unit(TreeSet<Integer> from, int depth) {
            TreeSet<Integer> ends = new TreeSet<>();
            TreeSet<Integer> compared = one(sum(from, depth), "=<>");
            if (!compared.isEmpty()) {
                ends.addAll(sum(compared, depth));
            }
            if (depth < 6) {
                TreeSet<Integer> not = one(from, "!");
                if (!not.isEmpty()) {
                    ends.addAll(unit(not, depth + 1));
                }
                TreeSet<Integer> inside = one(from, "(");
                if (!inside.isEmpty()) {
                    ends.addAll(one(condition(inside, depth + 1), ")"));
                }
            }
            return ends;
        }

        TreeSet<Integer> truth(TreeSet<Integer> from, int depth) {
            TreeSet<Integer> ends = new TreeSet<>();
            for (TreeSet<Integer> now = unit(from, depth); !now.isEmpty(); now = more(now, "&", 2, depth)) {
                ends.addAll(now);
            }
            return ends;
        }

        TreeSet<Integer> condition(TreeSet<Integer> from, int depth) {
            TreeSet<Integer> ends = new TreeSet<>();
            for (TreeSet<Integer> now = truth(from, depth); !now.isEmpty(); now = more(now, "|", 3, depth)) {
                ends.addAll(now);
            }
            return ends;
        }

        TreeSet<Integer> more(TreeSet<Integer> from, String signs, int what, int depth) {
            TreeSet<Integer> next = one(from, signs);
            if (next.isEmpty()) {
                return next;
            }
            return what == 0 ? atom(next, depth) : what == 1 ? term(next, depth)
                    : what == 2 ? unit(next, depth) : truth(next, depth);
        }

        TreeSet<Integer> clause(TreeSet<Integer> from) {
            TreeSet<Integer> body = one(one(from, LABELS[sort]), ":");
            TreeSet<Integer> ends = new TreeSet<>();
            if (!body.isEmpty()) {
                ends.addAll(sum(body, 0));
                TreeSet<Integer> behind = one(condition(body, 0), "?");
                if (!behind.isEmpty()) {
                    ends.addAll(sum(behind, 0));
                }
            }
            return ends;
        }

        boolean whole() {
            TreeSet<Integer> now = clause(new TreeSet<>(List.of(0)));
            boolean found = false;
            while (!now.isEmpty()) {
                for (int end : now) {
                    found |= blanks(end) == text.length();
                }
                TreeSet<Integer> next = one(now, ";");
                now = next.isEmpty() ? next : clause(next);
            }
            return found;
        }
    }

    static int faultOf(String text, int sort) {
        for (int n = 1; n <= text.length(); n++) {
            Ways ways = new Ways(text.substring(0, n), sort);
            if (!ways.whole() && !ways.wanted) {
                return n - 1;
            }
        }
        return new Ways(text, sort).whole() ? NONE : text.length();
    }

    // ---- worth, straight from the text without its blanks ----

    static int worthOf(String text, char label, ToIntFunction<Character> letters) {
        for (String clause : text.replace(" ", "").split(";")) {
            if (clause.charAt(0) != label) {
                continue;
            }
            String body = clause.substring(2);
            int mark = body.indexOf('?');
            if (mark < 0 || condition(body.substring(0, mark), letters)) {
                return sum(body.substring(mark + 1), letters);
            }
        }
        return 0;
    }

    /** Where the last of these signs stands outside of all ( and [; -1: nowhere. */
    static int lastOutside(String text, String signs) {
        int depth = 0;
        for (int at = text.length() - 1; at >= 0; at--) {
            char sign = text.charAt(at);
            depth += sign == ')' || sign == ']' ? 1 : sign == '(' || sign == '[' ? -1 : 0;
            if (depth == 0 && signs.indexOf(sign) >= 0) {
                return at;
            }
        }
        return -1;
    }

    static boolean condition(String text, ToIntFunction<Character> letters) {
        int at = lastOutside(text, "|");
        if (at >= 0) {
            return condition(text.substring(0, at), letters) || condition(text.substring(at + 1), letters);
        }
        at = lastOutside(text, "&");
        if (at >= 0) {
            return condition(text.substring(0, at), letters) && condition(text.substring(at + 1), letters);
        }
        if (text.startsWith("!")) {
            return !condition(text.substring(1), letters);
        }
        if (text.startsWith("(")) {
            return condition(text.substring(1, text.length() - 1), letters);
        }
        at = lastOutside(text, "=<>");
        int left = sum(text.substring(0, at), letters);
        int right = sum(text.substring(at + 1), letters);
        return switch (text.charAt(at)) {
            case '=' -> left == right;
            case '<' -> left < right;
            default -> left > right;
        };
    }

    static int sum(String text, ToIntFunction<Character> letters) {
        int at = lastOutside(text, "+-");
        if (at < 0) {
            at = lastOutside(text, "*/");
        }
        if (at >= 0) {
            long left = sum(text.substring(0, at), letters);
            long right = sum(text.substring(at + 1), letters);
            long joined = switch (text.charAt(at)) {
                case '+' -> left + right;
                case '-' -> left - right;
                case '*' -> left * right;
                default -> right == 0 ? 0 : left / right;
            };
            return (int) Math.min(1_000_000, Math.max(-1_000_000, joined));
        }
        if (text.startsWith("[")) {
            return sum(text.substring(1, text.length() - 1), letters);
        }
        return Character.isDigit(text.charAt(0)) ? Integer.parseInt(text) : letters.applyAsInt(text.charAt(0));
    }

    // ---- runs ----

    int putInOf(int j, Change change) {
        return change.of == j ? change.putIn : persons.get(j).putIn();
    }

    List<Integer> near(State state, int j, Change change) {
        List<Integer> near = new ArrayList<>();
        for (int k = 0; k < persons.size(); k++) {
            if (k != j && !change.gone.contains(k) && state.place()[j] != NONE
                    && state.place()[k] == state.place()[j]) {
                near.add(k);
            }
        }
        return near;
    }

    int letter(char letter, State state, int j, int hour, Change change) {
        List<Integer> near = near(state, j, change);
        return switch (letter) {
            case 'v' -> state.held()[j];
            case 'p' -> putInOf(j, change);
            case 'n' -> near.size();
            case 'm' -> near.isEmpty() ? 0 : near.stream().mapToInt(k -> state.held()[k]).sum() / near.size();
            case 's' -> (int) near.stream().filter(k -> persons.get(k).sent()).count();
            case 'u' -> (int) words.stream().filter(w -> w <= hour).count();
            case 'd' -> words.stream().filter(w -> w <= hour).mapToInt(w -> hour - w).min().orElse(0);
            default -> hour;
        };
    }

    int worthAt(int law, char label, State state, int j, int hour, Change change) {
        return worthOf(laws.get(law), label, c -> letter(c, state, j, hour, change));
    }

    State first(long seed, Change change) {
        int many = persons.size();
        State state = new State(new int[many], new int[many], new int[many], seed);
        for (int j = 0; j < many; j++) {
            state.held()[j] = persons.get(j).holds();
            state.place()[j] = change.of == j ? change.place : persons.get(j).house();
            state.told()[j] = NONE;
        }
        return state;
    }

    static int hundred(int number) {
        return Math.min(100, Math.max(0, number));
    }

    State next(int law, State old, int hour, Change change) {
        int many = persons.size();
        int[] held = old.held().clone();
        int[] place = old.place().clone();
        int[] told = old.told().clone();
        int[] heard = new int[many];
        long x = old.x();
        for (int j = 0; j < many; j++) {
            if (persons.get(j).sent() || change.gone.contains(j)) {
                continue;
            }
            held[j] = hundred(old.held()[j] + worthAt(law, 'y', old, j, hour, change));
            if (held[j] < 50) {
                continue;
            }
            told[j] = told[j] == NONE ? hour : told[j];
            for (int k : persons.get(j).knows()) {
                boolean same = old.place()[j] != NONE && old.place()[j] == old.place()[k];
                if (!persons.get(k).sent() && !change.gone.contains(k) && !same) {
                    heard[k] += worthAt(law, 'x', old, j, hour, change);
                }
            }
        }
        for (int j = 0; j < many; j++) {
            held[j] = hundred(held[j] + heard[j]);
            if (old.place()[j] != NONE && !persons.get(j).sent() && !change.gone.contains(j)) {
                x = x * 6364136223846793005L + 1442695040888963407L;
                if ((x >>> 33) % 100 < worthAt(law, 'g', old, j, hour, change)) {
                    place[j] = NONE;
                }
            }
        }
        return new State(held, place, told, x);
    }

    List<State> hours(int law, long seed, int hours, Change change) {
        List<State> all = new ArrayList<>();
        all.add(first(seed, change));
        for (int hour = 0; hour < hours; hour++) {
            all.add(next(law, all.get(hour), hour, change));
        }
        return all;
    }

    State behind(int law, long seed, int hours, Change change) {
        return hours(law, seed, hours, change).get(hours);
    }

    static boolean out(int number, int least, int most) {
        return number < least || number > most;
    }

    boolean noLaw(int law) {
        return out(law, 0, laws.size() - 1);
    }

    boolean nobody(int person) {
        return out(person, 0, persons.size() - 1);
    }

    boolean noTurning(int turning) {
        return out(turning, 0, turnings.size() - 1);
    }

    // ---- the calls ----

    int feed(int... numbers) {
        StringBuilder more = new StringBuilder();
        for (int number : numbers) {
            for (int b : new int[] {number >>> 24, number >>> 16, number >>> 8, number}) {
                if ((b & 255) != 0) {
                    more.append((char) (b & 255));
                }
            }
        }
        if (tape.length() + more.length() > 120) {
            return NONE;
        }
        tape.append(more);
        return tape.length();
    }

    boolean end(int n) {
        if (out(n, 0, tape.length())) {
            return false;
        }
        tape.setLength(n);
        return true;
    }

    int fault(int sort) {
        return out(sort, 0, 1) ? -2 : faultOf(tape.toString(), sort);
    }

    int text(int sort) {
        if (out(sort, 0, 1) || fault(sort) != NONE) {
            return NONE;
        }
        List<String> those = sort == 0 ? laws : turnings;
        if (those.size() == (sort == 0 ? 6 : 8)) {
            return NONE;
        }
        those.add(tape.toString());
        tape.setLength(0);
        return those.size() - 1;
    }

    int person(int holds, int putIn, int house, boolean sent) {
        if (out(holds, 0, 100) || out(putIn, 0, 99) || out(house, 0, 3) || persons.size() == 10) {
            return NONE;
        }
        persons.add(new Person(holds, putIn, house, sent, new TreeSet<>()));
        return persons.size() - 1;
    }

    boolean know(int one, int other) {
        if (nobody(one) || nobody(other) || one == other) {
            return false;
        }
        persons.get(one).knows().add(other);
        persons.get(other).knows().add(one);
        return true;
    }

    int word(int hour) {
        if (out(hour, 0, 47) || words.size() == 4) {
            return NONE;
        }
        words.add(hour);
        return words.size();
    }

    /** A long that no WORTH is stands for the exception. */
    long worth(int law, int label, int person) {
        if (noLaw(law) || out(label, 0, 2) || nobody(person)) {
            return Long.MIN_VALUE;
        }
        Change none = new Change();
        return worthAt(law, "ygx".charAt(label), first(0, none), person, 0, none);
    }

    int run(int law, long seed, int hours, int person, int what) {
        if (noLaw(law) || out(hours, 0, 48) || nobody(person) || out(what, 0, 2)) {
            return HIDDEN;
        }
        State state = behind(law, seed, hours, new Change());
        return (what == 0 ? state.held() : what == 1 ? state.place() : state.told())[person];
    }

    int all(int law, long seed, int hours, int what) {
        if (noLaw(law) || out(hours, 0, 48) || out(what, 0, 1)) {
            return NONE;
        }
        State state = behind(law, seed, hours, new Change());
        int left = 0;
        int up = 0;
        for (int j = 0; j < persons.size(); j++) {
            left += state.place()[j] == NONE ? 1 : 0;
            up += state.held()[j] < 20 ? 1 << j : 0;
        }
        return what == 0 ? left : up;
    }

    int without(int law, long seed, int who, int person) {
        if (noLaw(law) || nobody(person) || who < 0 || who >= 1 << persons.size() || (who >> person) % 2 == 1) {
            return HIDDEN;
        }
        Change change = new Change();
        for (int j = 0; j < persons.size(); j++) {
            if ((who >> j) % 2 == 1) {
                change.gone.add(j);
            }
        }
        return behind(law, seed, 48, change).held()[person];
    }

    int sentBits() {
        int bits = 0;
        for (int j = 0; j < persons.size(); j++) {
            bits += persons.get(j).sent() ? 1 << j : 0;
        }
        return bits;
    }

    int did(int law, long seed, int person) {
        if (noLaw(law) || nobody(person) || persons.get(person).sent()) {
            return HIDDEN;
        }
        return without(law, seed, 0, person) - without(law, seed, sentBits(), person);
    }

    int lean(int law, long seed, int person, int what) {
        if (noLaw(law) || nobody(person) || persons.get(person).sent() || out(what, 0, 1)) {
            return HIDDEN;
        }
        Change change = new Change();
        change.of = person;
        change.putIn = what == 0 ? 0 : persons.get(person).putIn();
        change.place = what == 1 ? NONE : persons.get(person).house();
        return without(law, seed, 0, person) - behind(law, seed, 48, change).held()[person];
    }

    int note(int person, int hour, int kind, int value, int off) {
        if (nobody(person) || out(hour, 0, 48) || out(kind, 0, 1) || notes.size() == 20) {
            return NONE;
        }
        if (kind == 0 && (out(value, 0, 100) || out(off, 0, 50)) || kind == 1 && out(value, -1, 3)) {
            return NONE;
        }
        notes.add(new Note(person, hour, kind, value, off));
        return notes.size();
    }

    boolean alone(int person) {
        int house = persons.get(person).house();
        return persons.stream().filter(p -> p.house() == house).count() == 1;
    }

    int fits(long seed, boolean alone) {
        int bits = 0;
        for (int law = 0; law < laws.size(); law++) {
            List<State> hours = hours(law, seed, 48, new Change());
            boolean fits = true;
            for (Note n : notes) {
                State then = hours.get(n.hour());
                boolean so = n.kind() == 1 ? then.place()[n.person()] == n.value()
                        : Math.abs(then.held()[n.person()] - n.value()) <= n.off();
                fits &= so || alone && !alone(n.person());
            }
            bits += fits ? 1 << law : 0;
        }
        return bits;
    }

    int books(int law, long seed, int what) {
        if (noLaw(law) || out(what, 0, 1)) {
            return HIDDEN;
        }
        State state = behind(law, seed, 48, new Change());
        TreeSet<Integer> kept = new TreeSet<>();
        for (int j = 0; j < persons.size(); j++) {
            if (state.told()[j] != NONE) {
                kept.add(persons.get(j).house());
            }
        }
        if (what == 0) {
            return kept.stream().mapToInt(h -> 1 << h).sum();
        }
        int[] many = new int[2];
        int[] sum = new int[2];
        for (int j = 0; j < persons.size(); j++) {
            if (!persons.get(j).sent()) {
                many[1]++;
                sum[1] += state.held()[j];
                many[0] += kept.contains(persons.get(j).house()) ? 1 : 0;
                sum[0] += kept.contains(persons.get(j).house()) ? state.held()[j] : 0;
            }
        }
        return kept.isEmpty() ? 0 : sum[0] / many[0] - sum[1] / many[1];
    }

    long odds(int law, long seed, int hours, int k) {
        if (noLaw(law) || out(hours, 0, 47) || out(k, 0, 8)) {
            return NONE;
        }
        Change none = new Change();
        State state = behind(law, seed, hours, none);
        List<Integer> chances = new ArrayList<>();
        for (int j = 0; j < persons.size(); j++) {
            if (state.place()[j] != NONE && !persons.get(j).sent()) {
                chances.add(hundred(worthAt(law, 'g', state, j, hours, none)));
            }
        }
        if (chances.size() > 8) {
            return NONE;
        }
        long sum = 0;
        for (int set = 0; set < 1 << chances.size(); set++) {
            long product = Integer.bitCount(set) == k ? 1 : 0;
            for (int j = 0; j < chances.size(); j++) {
                product *= (set >> j) % 2 == 1 ? chances.get(j) : 100 - chances.get(j);
            }
            sum += product;
        }
        return sum;
    }

    int lets(int turning, int outcome) {
        if (noTurning(turning) || out(outcome, 0, 31)) {
            return NONE;
        }
        return worthOf(turnings.get(turning), 'w', c -> (outcome >> (c - 'a')) % 2) != 0 ? 1 : 0;
    }

    int bars(int turning) {
        if (noTurning(turning)) {
            return NONE;
        }
        int bars = 0;
        for (int outcome = 0; outcome < 32; outcome++) {
            bars += 1 - lets(turning, outcome);
        }
        return bars;
    }

    int bolder(int one, int other) {
        if (noTurning(one) || noTurning(other)) {
            return NONE;
        }
        boolean barsAll = true;
        boolean barsMore = false;
        for (int outcome = 0; outcome < 32; outcome++) {
            barsAll &= lets(other, outcome) == 1 || lets(one, outcome) == 0;
            barsMore |= lets(other, outcome) == 1 && lets(one, outcome) == 0;
        }
        return barsAll && barsMore ? 1 : 0;
    }

    boolean say(int person, int turning) {
        if (nobody(person) || out(turning, -1, turnings.size() - 1)) {
            return false;
        }
        said[person] = turning;
        return true;
    }

    int stayed(int law, long seed, int outcome) {
        if (noLaw(law) || out(outcome, 0, 31)) {
            return NONE;
        }
        State state = behind(law, seed, 48, new Change());
        int bits = 0;
        for (int j = 0; j < persons.size(); j++) {
            bits += lets(said[j], outcome) == 1 && state.held()[j] >= 50 ? 1 << j : 0;
        }
        return bits;
    }

    int act(int person, int kind, int x, int cost) {
        if (nobody(person) || persons.get(person).sent() || out(kind, 0, 2) || out(cost, 1, 50) || acts.size() == 6) {
            return NONE;
        }
        if (kind == 0 && out(x, 0, 99) || kind == 1 && out(x, 0, 3) || kind == 2 && (nobody(x) || x == person)) {
            return NONE;
        }
        acts.add(new Act(person, kind, x, cost));
        return acts.size() - 1;
    }

    int help(int law, long seed, int person, int what) {
        if (noLaw(law) || nobody(person) || out(what, 0, 1)) {
            return NONE;
        }
        String best = null;
        int bestSet = NONE;
        int bestCost = NONE;
        for (int set = 0; set < 1 << acts.size(); set++) {
            int cost = 0;
            boolean own = true;
            Change change = new Change();
            change.of = person;
            change.putIn = persons.get(person).putIn();
            change.place = persons.get(person).house();
            StringBuilder names = new StringBuilder();
            for (int i = 0; i < acts.size(); i++) {
                if ((set >> i) % 2 == 1) {
                    Act act = acts.get(i);
                    own &= act.person() == person;
                    cost += act.cost();
                    names.append(i);
                    change.putIn = act.kind() == 0 ? Math.max(0, change.putIn - act.x()) : change.putIn;
                    change.place = act.kind() == 1 ? act.x() : change.place;
                    if (act.kind() == 2) {
                        change.gone.add(act.x());
                    }
                }
            }
            // least cost, then fewest, then the lower act where two first differ: the order of these texts
            String rank = String.format("%04d %d %s", cost, Integer.bitCount(set), names);
            if (own && (best == null || rank.compareTo(best) < 0)
                    && behind(law, seed, 48, change).held()[person] < 20) {
                best = rank;
                bestSet = set;
                bestCost = cost;
            }
        }
        return what == 0 ? bestSet : bestCost;
    }

    int holders(int law, long seed, int without) {
        Change change = new Change();
        for (int j = 0; j < persons.size(); j++) {
            if ((without >> j) % 2 == 1) {
                change.gone.add(j);
            }
        }
        State state = behind(law, seed, 48, change);
        int bits = 0;
        for (int j = 0; j < persons.size(); j++) {
            bits += !persons.get(j).sent() && state.held()[j] >= 50 ? 1 << j : 0;
        }
        return bits;
    }

    int lookers(int law, long seed) {
        if (noLaw(law)) {
            return NONE;
        }
        int sent = sentBits();
        int due = holders(law, seed, sent);
        String best = null;
        int bestSet = NONE;
        for (int set = 0; set < 1 << persons.size(); set++) {
            if ((set & sent) == set && holders(law, seed, sent - set) == due) {
                StringBuilder rank = new StringBuilder(String.format("%02d ", 10 - Integer.bitCount(set)));
                for (int j = 0; j < persons.size(); j++) {
                    rank.append((set >> j) % 2 == 1 ? String.valueOf(j) : "");
                }
                if (best == null || rank.toString().compareTo(best) < 0) {
                    best = rank.toString();
                    bestSet = set;
                }
            }
        }
        return bestSet;
    }

    int count(int what) {
        return switch (what) {
            case 0 -> laws.size();
            case 1 -> turnings.size();
            case 2 -> persons.size();
            case 3 -> words.size();
            case 4 -> notes.size();
            case 5 -> acts.size();
            case 6 -> tape.length();
            default -> NONE;
        };
    }
}
