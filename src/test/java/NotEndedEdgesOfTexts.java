/** The edges of the grammar: for every sentence of it what may stand at a place, and what may not. */
public final class NotEndedEdgesOfTexts {
    private static final int LAW = 0;
    private static final int TURNING = 1;
    private static final String DIGITS = "0123456789";
    private static final String LAW_LETTERS = "vpnmsudi";
    private static final String TURNING_LETTERS = "abcde";

    public static void main(String[] args) {
        clauses();
        labels();
        colon();
        behindTheColon();
        numbers();
        letters();
        sumsAndTerms();
        enclosedSums();
        comparisons();
        truths();
        enclosedConditions();
        whatHasACondition();
        blanks();
        sixWithinOneAnother();
        sixIsCountedAnewEachTime();
        faultIsTheFirstByte();
        endsTooEarly();
        manyOfEach();
        theTapesEnd();
        Bench.close();
    }

    /** The fault of a text, whether it is taken as one of its sort, and what becomes of the tape. */
    private static void fault(String text, int sort, int want) {
        NotEnded x = new NotEnded();
        Bench.due("bytes of '" + text + "'", Bench.feed(x, text), text.length());
        Bench.due("fault of '" + text + "'", x.fault(sort), want);
        boolean good = want == Bench.NONE;
        Bench.due("text of '" + text + "'", x.text(sort), good ? 0 : Bench.NONE);
        Bench.due("tape behind '" + text + "'", x.count(6), good ? 0 : text.length());
        Bench.due("texts behind '" + text + "'", x.count(sort), good ? 1 : 0);
        Bench.due("others behind '" + text + "'", x.count(1 - sort), 0);
        if (!good) {
            Bench.due("fault of '" + text + "' again", x.fault(sort), want);
        }
    }

    private static void good(String text) {
        fault(text, LAW, Bench.NONE);
    }

    private static void bad(String text, int want) {
        fault(text, LAW, want);
    }

    private static void endsEarly(String text) {
        fault(text, LAW, text.length());
    }

    /** For each byte that may be fed: whether it ends a text, whether one can go on with it, or it is the fault. */
    private static void next(String before, String ends, String goesOn, int sort) {
        for (char sign = 1; sign < 256; sign++) {
            int want = before.length();
            if (ends.indexOf(sign) >= 0) {
                want = Bench.NONE;
            } else if (goesOn.indexOf(sign) >= 0) {
                want = before.length() + 1;
            }
            fault(before + sign, sort, want);
        }
    }

    private static void clauses() {
        Bench.sentence("CLAUSES with ; between, one at least");
        bad("", 0);
        fault("", TURNING, 0);
        good("y:1");
        good("y:1;y:1");
        bad(";", 0);
        bad(";y:1", 0);
        endsEarly("y:1;");
        bad("y:1;;y:1", 4);
        bad("y:1,y:1", 3);
        next("y:v;", "", "ygx ", LAW);
        next("w:a;", "", "w ", TURNING);
        next("y:v;g", "", ": ", LAW);
    }

    private static void labels() {
        Bench.sentence("a LABEL (of LAWS y g x, of TURNINGS w)");
        next("", "", "ygx ", LAW);
        next("", "", "w ", TURNING);
        for (String label : new String[] {"y", "g", "x"}) {
            good(label + ":1");
            fault(label + ":1", TURNING, 0);
        }
        fault("w:1", TURNING, Bench.NONE);
        fault("w:1", LAW, 0);
        bad("yy:1", 1);
    }

    private static void colon() {
        Bench.sentence("a LABEL, a :");
        next("y", "", ": ", LAW);
        next("x ", "", ": ", LAW);
        next("w", "", ": ", TURNING);
        bad("y::1", 2);
    }

    private static void behindTheColon() {
        Bench.sentence("perhaps CONDITION ?, then SUM");
        next("y:", DIGITS + LAW_LETTERS, "[!( ", LAW);
        next("w:", DIGITS + TURNING_LETTERS, "[!( ", TURNING);
        next("y:v=p?", DIGITS + LAW_LETTERS, "[ ", LAW);
        next("w:a=b?", DIGITS + TURNING_LETTERS, "[ ", TURNING);
        next("y:v=p?v", " ", ";+-*/", LAW);
        next("y:v=p?1", DIGITS + " ", ";+-*/", LAW);
        bad("y:v=p?v=p?v", 7);
        bad("y:v=p??v", 6);
        bad("y:v?v", 3);
    }

    private static void numbers() {
        Bench.sentence("a number (1 to 4 digits); a fifth digit is a FAULT");
        good("y:0");
        good("y:0000");
        good("y:9999");
        bad("y:00000", 6);
        bad("y:99999", 6);
        bad("y:123456", 6);
        bad("y:1+12345", 8);
        bad("y:[00001]", 7);
        bad("y:v=12345?1", 8);
        bad("y:v=1?12345", 10);
        next("y:123", DIGITS + " ", ";+-*/=<>", LAW);
        next("y:1234", " ", ";+-*/=<>", LAW);
        Bench.sentence("Blanks not within numbers");
        bad("y:1 2", 4);
        bad("y:123 4", 6);
        next("y:1 ", " ", ";+-*/=<>", LAW);
        Bench.sentence("a number has no sign");
        bad("y:-1", 2);
        bad("y:+1", 2);
        bad("y:1--1", 4);
    }

    private static void letters() {
        Bench.sentence("a letter (of a LAW v p n m s u d i, of a TURNING a b c d e)");
        for (char sign = 'A'; sign <= 'z'; sign++) {
            if (Character.isLetter(sign)) {
                fault("y:1+" + sign, LAW, LAW_LETTERS.indexOf(sign) >= 0 ? Bench.NONE : 4);
                fault("w:1+" + sign, TURNING, TURNING_LETTERS.indexOf(sign) >= 0 ? Bench.NONE : 4);
            }
        }
        next("y:v", " ", ";+-*/=<>", LAW);
        next("w:a", " ", ";+-*/=<>", TURNING);
        bad("y:vp", 3);
        bad("y:v1", 3);
        bad("y:1v", 3);
    }

    private static void sumsAndTerms() {
        Bench.sentence("SUM: TERMS with + or - between; TERM: ATOMS with * or / between");
        for (String sign : new String[] {"+", "-", "*", "/"}) {
            good("y:v" + sign + "p");
            bad("y:" + sign + "p", 2);
            endsEarly("y:v" + sign);
            bad("y:v" + sign + sign + "p", 4);
            next("y:v" + sign, DIGITS + LAW_LETTERS, "[ ", LAW);
            next("w:a" + sign, DIGITS + TURNING_LETTERS, "[ ", TURNING);
            bad("y:v" + sign + "(p)", 4);
            bad("y:v" + sign + "!p", 4);
        }
    }

    private static void enclosedSums() {
        Bench.sentence("ATOM: [ SUM ]");
        good("y:[v]");
        good("y:[v+1]*[p]");
        bad("y:[]", 3);
        endsEarly("y:[v");
        bad("y:v]", 3);
        bad("y:[v]]", 5);
        bad("y:[v)", 4);
        bad("y:[v=1]", 4);
        bad("y:[v;y:1]", 4);
        bad("y:[v][v]", 5);
        next("y:[", "", DIGITS + LAW_LETTERS + "[ ", LAW);
        next("y:[v", "]", "+-*/ ", LAW);
        next("y:[v]", " ", ";+-*/=<>", LAW);
        next("y:v=p?[v]", " ", ";+-*/", LAW);
        next("y:v=[p]", "", "+-*/&|? ", LAW);
    }

    private static void comparisons() {
        Bench.sentence("UNIT: SUM, one of = < >, SUM");
        for (String sign : new String[] {"=", "<", ">"}) {
            good("y:v" + sign + "p?1");
            bad("y:v" + sign + sign + "p?1", 4);
            bad("y:" + sign + "p?1", 2);
            bad("y:v" + sign + "?1", 4);
            bad("y:v" + sign + "p" + sign + "1?1", 5);
            bad("y:v" + sign + "!p?1", 4);
            bad("y:v" + sign + "(p)?1", 4);
            next("y:v" + sign, "", DIGITS + LAW_LETTERS + "[ ", LAW);
            next("y:v" + sign + "p", "", "+-*/&|? ", LAW);
            next("y:v" + sign + "1234", "", "+-*/&|? ", LAW);
            next("w:a" + sign + "b", "", "+-*/&|? ", TURNING);
        }
    }

    private static void truths() {
        Bench.sentence("CONDITION: TRUTHS with | between; TRUTH: UNITS with & between");
        for (String sign : new String[] {"|", "&"}) {
            good("y:v=1" + sign + "p=1?1");
            bad("y:" + sign + "p=1?1", 2);
            bad("y:v=1" + sign + "?1", 6);
            bad("y:v=1" + sign + sign + "p=1?1", 6);
            bad("y:v" + sign + "p=1?1", 3);
            bad("y:v=1" + sign + "p?1", 7);
            next("y:v=p" + sign, "", DIGITS + LAW_LETTERS + "[!( ", LAW);
            next("y:v=p" + sign + "v", "", "+-*/=<> ", LAW);
            next("w:a=b" + sign, "", DIGITS + TURNING_LETTERS + "[!( ", TURNING);
        }
    }

    private static void enclosedConditions() {
        Bench.sentence("UNIT: ! UNIT, ( CONDITION )");
        good("y:!v=1?1");
        good("y:(v=1)?1");
        good("y:(v=1|p=1&n=1)?1");
        good("y:!(v=1)?1");
        good("y:(!v=1)?1");
        bad("y:!?1", 3);
        bad("y:()?1", 3);
        bad("y:v=1!?1", 5);
        bad("y:(v=1))?1", 7);
        bad("y:(v=1?1", 6);
        bad("y:(v=1]?1", 6);
        bad("y:(v=1)(p=1)?1", 7);
        bad("y:v=1)?1", 5);
        next("y:!", "", DIGITS + LAW_LETTERS + "[!( ", LAW);
        next("y:(", "", DIGITS + LAW_LETTERS + "[!( ", LAW);
        next("y:!v", "", "+-*/=<> ", LAW);
        next("y:(v", "", "+-*/=<> ", LAW);
        next("y:!v=p", "", "+-*/&|? ", LAW);
        next("y:(v=p", "", "+-*/&|) ", LAW);
        next("y:(v=p)", "", "&|? ", LAW);
        next("y:((v=p)", "", "&|) ", LAW);
        next("y:!(v=p)", "", "&|? ", LAW);
    }

    private static void whatHasACondition() {
        Bench.sentence("A CLAUSE that goes on with ! or ( behind its : has a CONDITION");
        endsEarly("y:!v=1");
        endsEarly("y:(v=1)");
        bad("y:(v)", 4);
        bad("y:(v)?1", 4);
        bad("y:(v)+1", 4);
        bad("y:(v+1)*2", 6);
        bad("y:(v=1);y:1", 7);
        bad("y:(v=1)=1?1", 7);
        bad("y:!v?1", 4);
        bad("y: (v)", 5);
        good("y:[v]");
        good("y:[v]=1?1");
    }

    private static void blanks() {
        Bench.sentence("Blanks (32) may stand between all these");
        good("   y  :   v  +  1  *  [  p  ]  =  2  &  !  (  n  <  3  |  m  >  4  )  ?  5  /  6  ;  g  :  7   ");
        good(" y:1");
        good("y:1 ");
        good("y :1");
        good("y: 1");
        bad(" ", 1);
        bad("  ", 2);
        bad(" ".repeat(120), 120);
        good("y:1" + " ".repeat(117));
        good(" ".repeat(117) + "y:1");
        endsEarly("y:1 ; ");
        bad("y: ; ", 3);
        for (char sign = 1; sign < 256; sign++) {
            if (sign != ' ') {
                bad("y" + sign + sign, sign == ':' ? 2 : 1);
            }
        }
        for (int sign : new int[] {9, 10, 11, 12, 13, 160}) {
            bad("y:1" + (char) sign, 3);
            bad((char) sign + "y:1", 0);
        }
    }

    /** All ways to stand within one another: ( and ! in any order, then [ alone. */
    private static void sixWithinOneAnother() {
        Bench.sentence("at most six of ( [ ! within one another; a seventh of these is a FAULT");
        for (int outer = 0; outer <= 7; outer++) {
            for (int kinds = 0; kinds < 1 << outer; kinds++) {
                within(outer, kinds, 6 - outer);
                within(outer, kinds, 7 - outer);
            }
        }
        bad("y:[[[[[[[", 8);
        bad("y:[[[[[[(", 8);
        bad("y:[[[[[[!", 8);
        endsEarly("y:1=1?[[[[[[");
        bad("y:1=1?[[[[[[[", 12);
        endsEarly("y:1+1*[[[[[[");
        bad("y:1+1*[[[[[[[", 12);
        fault("w:!(!(!(a=[", TURNING, 10);
    }

    private static void within(int outer, int kinds, int inner) {
        if (inner < 0) {
            return;
        }
        StringBuilder open = new StringBuilder("y:");
        StringBuilder close = new StringBuilder();
        for (int i = 0; i < outer; i++) {
            boolean round = (kinds >> i & 1) != 0;
            open.append(round ? '(' : '!');
            close.insert(0, round ? ")" : "");
        }
        String left = open + "[".repeat(inner) + "1" + "]".repeat(inner) + "=1" + close + "?1";
        String right = open + "1=" + "[".repeat(inner) + "1" + "]".repeat(inner) + close + "?1";
        boolean fits = outer + inner <= 6;
        bad(left, fits ? Bench.NONE : 2 + 6);
        bad(right, fits ? Bench.NONE : 2 + 6 + (outer > 6 ? 0 : 2));
    }

    private static void sixIsCountedAnewEachTime() {
        Bench.sentence("at most six within one another, not one beside another");
        good("y:" + "[1]+".repeat(20) + "[1]");
        good("y:" + "!1=1&".repeat(20) + "!1=1?1");
        good("y:" + "(1=1)|".repeat(15) + "(1=1)?1");
        String six = "[[[[[[1]]]]]]";
        good("y:" + six + "+" + six + "*" + six + "=" + six + "?" + six + ";g:" + six);
        good("y:!!!!!!1=1|!!!!!!1=1&((((((1=1))))))?" + six);
        good("y:!!!!!1=[1]&[[[[[[1]]]]]]=1?1");
        bad("y:!!!!!!1=1&!!!!!!!1=1?1", 18);
        bad("y:!!!!!!1=[1]?1", 10);
        bad("y:!!!!!!1+1*[1]=1?1", 12);
        good("y:!!!!!!1+1*1=1&[1]=1?1");
    }

    private static void faultIsTheFirstByte() {
        Bench.sentence("FAULT: the first byte at which no text can go on");
        bad("?y:1", 0);
        bad("y:1;w:1;#", 4);
        bad("y:12345+#", 6);
        bad("y:v=1;#", 5);
        bad("y:1#################", 3);
        bad("y:1 #", 4);
        bad("y:1;g:2;x:3;z:4", 12);
        bad("y:1;g:2;x:3;y:4;g:5 6", 20);
        fault("w:1;w:v", TURNING, 6);
        fault("w:1;w:a;y:1", TURNING, 8);
        for (int at = 0; at < 120; at += 7) {
            String text = ("y:" + "1+".repeat(59)).substring(0, at) + "#" + "1".repeat(119 - at);
            bad(text, at);
        }
        for (char sign = 128; sign < 256; sign++) {
            bad("y:1+" + sign, 4);
        }
    }

    private static void endsTooEarly() {
        Bench.sentence("FAULT: the length, if it ends too early");
        String law = "y : !(v + 12 * [p - 3] < 40 | n = 1) & m > 2 ? 7 / [s] ; g : u ; x : d = 0 ? i";
        // a text may end behind a sum that needs no condition any more: behind 7, [s], u and i, and blanks there
        String ends = "y : !(v + 12 * [p - 3] < 40 | n = 1) & m > 2 ? ";
        for (int n = 0; n <= law.length(); n++) {
            bad(law.substring(0, n), isWhole(law.substring(0, n), ends) ? Bench.NONE : n);
        }
        String turning = "w:a=1?b+1;w:[c]";
        int[] whole = {3, 7, 9, 15};
        for (int n = 0; n <= turning.length(); n++) {
            boolean found = false;
            for (int w : whole) {
                found |= w == n;
            }
            fault(turning.substring(0, n), TURNING, found ? Bench.NONE : n);
        }
    }

    private static boolean isWhole(String text, String head) {
        if (!text.startsWith(head)) {
            return false;
        }
        String[] clauses = text.substring(head.length()).split(";", -1);
        String last = clauses[clauses.length - 1].replace(" ", "");
        if (clauses.length == 1) {
            return last.equals("7") || last.equals("7/[s]");
        }
        return clauses.length == 2 ? last.equals("g:u") : last.equals("x:d") || last.equals("x:d=0?i");
    }

    private static void manyOfEach() {
        Bench.sentence("as many as the TAPE has room for");
        good("y:1;".repeat(29) + "y:1");
        good("y:1;".repeat(29) + "y:1 ");
        endsEarly("y:1;".repeat(30));
        good("y:1" + "+1".repeat(58));
        good("y:1" + "-v".repeat(58) + " ");
        good("y:1" + "*1".repeat(58));
        good("y:1" + "/1".repeat(58));
        good("y:1=1" + "|1=1".repeat(28) + "?1");
        good("y:1=1" + "&1=1".repeat(28) + "?1");
        good("y:1" + "+1".repeat(28) + "=1" + "+1".repeat(28) + "?1");
        fault("w:a;".repeat(29) + "w:e", TURNING, Bench.NONE);
    }

    private static void theTapesEnd() {
        Bench.sentence("the length, if it ends too early, of a full TAPE");
        endsEarly("y:1" + "+1".repeat(58) + "+");
        endsEarly("y:" + " ".repeat(118));
        endsEarly("y:1=1" + "|1=1".repeat(28) + "|1=");
        good("y:1" + "+1".repeat(58) + "1");
        bad("y:1" + "+1".repeat(58) + "v", 119);
    }
}
