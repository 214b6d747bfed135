import java.util.NoSuchElementException;

/** For each promise of the document: ordinary inputs, the edges that it names, and wrong inputs. */
public final class NotEndedPromises {
    private static final int THROWN = Integer.MIN_VALUE;

    private static int wrong = 0;

    public static void main(String[] args) {
        promise1NewObject();
        promise2Feed();
        promise3End();
        promise4Fault();
        promise4FaultOfTurnings();
        promise5Text();
        promise6Person();
        promise7Know();
        promise8Word();
        promise9Reckoning();
        promise9Conditions();
        promise9Letters();
        promise9Refusals();
        promise10Holding();
        promise10Telling();
        promise10WhoIsTold();
        promise10Going();
        promise10Refusals();
        promise11All();
        promise12Without();
        promise13Did();
        promise14Lean();
        promise15Note();
        promise16Fits();
        promise17Books();
        promise18Odds();
        promise19And20LetsBars();
        promise21Bolder();
        promise22And23SayStayed();
        promise24Act();
        promise25Help();
        promise25Ties();
        promise26Lookers();
        promise27Count();
        everythingFull();
        System.out.println(wrong == 0 ? "all promises are kept" : wrong + " answers are not as promised");
        if (wrong != 0) {
            System.exit(1);
        }
    }

    private static void due(String what, long got, long want) {
        if (got != want) {
            wrong++;
            System.out.println(what + " answered " + got + ", due is " + want);
        }
    }

    private static void due(String what, boolean got, boolean want) {
        due(what, got ? 1 : 0, want ? 1 : 0);
    }

    private static int feed(NotEnded x, String text) {
        int last = x.count(6);
        for (int at = 0; at < text.length(); at += 20) {
            int[] n = new int[5];
            for (int i = 0; i < 20 && at + i < text.length(); i++) {
                n[i / 4] |= text.charAt(at + i) << 24 - i % 4 * 8;
            }
            last = x.feed(n[0], n[1], n[2], n[3], n[4]);
        }
        return last;
    }

    private static int law(NotEnded x, String text) {
        x.end(0);
        feed(x, text);
        return x.text(0);
    }

    private static int turning(NotEnded x, String text) {
        x.end(0);
        feed(x, text);
        return x.text(1);
    }

    private static NotEnded withLaw(String text) {
        NotEnded x = new NotEnded();
        due("law " + text, law(x, text), 0);
        return x;
    }

    private static int worth(NotEnded x, int law, int label, int person) {
        try {
            return x.worth(law, label, person);
        } catch (NoSuchElementException e) {
            return THROWN;
        }
    }

    private static String times(String text, int n) {
        return text.repeat(n);
    }

    private static void promise1NewObject() {
        NotEnded x = new NotEnded();
        for (int what = 0; what <= 6; what++) {
            due("new: count " + what, x.count(what), 0);
        }
        due("new: run", x.run(0, 0, 0, 0, 0), -1000);
        due("new: fits", x.fits(0, false), 0);
        due("new: fault", x.fault(0), 0);
        due("new: bars", x.bars(0), -1);
        NotEnded other = new NotEnded();
        x.person(1, 1, 1, false);
        due("two objects are apart", other.count(2), 0);
    }

    private static void promise2Feed() {
        NotEnded x = new NotEnded();
        due("feed nothing", x.feed(0, 0, 0, 0, 0), 0);
        due("feed w:1, zeros between", x.feed(0x00770000, 0x3a, 0, 0x31000000, 0), 3);
        due("the highest first", x.fault(1), -1);
        due("bytes above 127 count", x.feed(-1, -1, -1, -1, -1), 23);
        due("and are faults", x.fault(1), 3);
        x.end(0);
        for (int i = 1; i <= 6; i++) {
            due("feed " + i, x.feed(0x20202020, 0x20202020, 0x20202020, 0x20202020, 0x20202020), 20 * i);
        }
        due("a byte more than 120", x.feed(0, 0, 0, 0, 1), -1);
        due("a byte more than 120", x.feed(0, 0, 0, 1, 0), -1);
        due("a byte more than 120", x.feed(0, 0, 1, 0, 0), -1);
        due("a byte more than 120", x.feed(0, 1, 0, 0, 0), -1);
        due("a byte more than 120", x.feed(1, 0, 0, 0, 0), -1);
        due("it changed nothing", x.count(6), 120);
        due("no byte more", x.feed(0, 0, 0, 0, 0), 120);
        x.end(119);
        due("two bytes where one fits", x.feed(0x01010000, 0, 0, 0, 0), -1);
        due("none of them came", x.count(6), 119);
        due("one where one fits", x.feed(0, 0, 1, 0, 0), 120);
        due("it came last", x.fault(0), 119);
    }

    private static void promise3End() {
        NotEnded x = new NotEnded();
        due("end(0) of nothing", x.end(0), true);
        due("end(1) of nothing", x.end(1), false);
        feed(x, "w:1?");
        due("end(-1)", x.end(-1), false);
        due("end(5)", x.end(5), false);
        due("still four", x.count(6), 4);
        due("end(4)", x.end(4), true);
        due("end(3)", x.end(3), true);
        due("three", x.count(6), 3);
        due("the first ones", x.fault(1), -1);
    }

    private static void fault(String text, int sort, int want) {
        NotEnded x = new NotEnded();
        feed(x, text);
        due("fault of '" + text + "'", x.fault(sort), want);
        due("it leaves the tape", x.count(6), text.length());
    }

    private static void lawFault(String text, int want) {
        fault(text, 0, want);
    }

    private static void promise4Fault() {
        String[] good = {"y:1", " y : 1 ", "y:0000", "y:9999", "y:v+p-n*m/s", "y:u;g:d;x:i", "y:[1]", "y:[[v]+1]*2",
            "y:v=1?2", "y:!v=1?2", "y:(v=1)?2", "y:v=1&p<2|n>3?4", "y:((v=1))?2", "y:(v=1|!p=2)&m>0?[1]",
            "y:[v]=1?1", "y:v+1=p-1?1", "y:1;y:2", "y:!!!!!!v=1?1", "y:((((((v=1))))))?1", "y:[[[[[[1]]]]]]",
            "y:!(!((v=[1])))?1", "y:!([[[[v]]]]=1)?[[[[[[1]]]]]]",
            "y:!v=1&!v=2&!v=3&!v=4&!v=5&!v=6&!v=7?1", "y:[1]+[2]+[3]+[4]+[5]+[6]+[7]"};
        for (String text : good) {
            lawFault(text, -1);
        }
        lawFault("", 0);
        lawFault("z:1", 0);
        lawFault("Y:1", 0);
        lawFault("y", 1);
        lawFault("y1", 1);
        lawFault("y:", 2);
        lawFault("y:  ", 4);
        lawFault("y:-1", 2);
        lawFault("y:a", 2);
        lawFault("y:?1", 2);
        lawFault("y:)", 2);
        lawFault("y:1;", 4);
        lawFault("y:1;;", 4);
        lawFault("y:1 2", 4);
        lawFault("y:1v", 3);
        lawFault("y:12345", 6);
        lawFault("y:v?1", 3);
        lawFault("y:v&1=1?1", 3);
        lawFault("y:v=1", 5);
        lawFault("y:v=1;", 5);
        lawFault("y:v=1=1?1", 5);
        lawFault("y:v=1?", 6);
        lawFault("y:v=1?!", 6);
        lawFault("y:v=1?(", 6);
        lawFault("y:v=1?1=1", 7);
        lawFault("y:v=1?1?1", 7);
        lawFault("y:v==1?1", 4);
        lawFault("y:v=1&?1", 6);
        lawFault("y:v=!1", 4);
        lawFault("y:(v)", 4);
        lawFault("y:(v=1?1", 6);
        lawFault("y:(v=1)", 7);
        lawFault("y:(v=1)+1", 7);
        lawFault("y:(v=1)=1?1", 7);
        lawFault("y:[v", 4);
        lawFault("y:[v=1]", 4);
        lawFault("y:[v)", 4);
        lawFault("y:[]", 3);
        lawFault("y:[(", 3);
        lawFault("y:1+", 4);
        lawFault("y:1+*2", 4);
        lawFault("y:!!!!!!!v=1?1", 8);
        lawFault("y:(((((((v=1", 8);
        lawFault("y:[[[[[[[1", 8);
        lawFault("y:!(!(!([v]=1)))?1", 8);
        lawFault("y:!(!(!(v=1 |[1]=1)))?1", 13);
        lawFault("y:1=[[[[[[[1", 10);
        lawFault("y:v\t+1", 3);
        lawFault("y:" + (char) 233, 2);
        NotEnded x = withLaw("y:1");
        due("no such sort", x.fault(2), -2);
        due("no such sort", x.fault(-1), -2);
        String full = times("y:1;", 30);
        lawFault(full, 120);
        lawFault(full.substring(0, 119), -1);
        lawFault("y:" + times("1+", 59), 120);
        lawFault("y:" + times("1+", 58) + "1", -1);
        lawFault("y:" + times(" ", 117) + "1", -1);
    }

    private static void promise4FaultOfTurnings() {
        fault("w:1", 1, -1);
        fault("w:a+b+c+d+e", 1, -1);
        fault("w:a=1&!(b=1|c>d)?e;w:0", 1, -1);
        fault("w:f", 1, 2);
        fault("w:v", 1, 2);
        fault("y:1", 1, 0);
        fault("w:1;g:1", 1, 4);
        fault("w:1", 0, 0);
        fault("y:1;w:1", 0, 4);
    }

    private static void promise5Text() {
        NotEnded x = new NotEnded();
        due("an empty tape", x.text(0), -1);
        feed(x, "y:1");
        due("as a turning", x.text(1), -1);
        due("no such sort", x.text(2), -1);
        due("no such sort", x.text(-1), -1);
        due("the tape stays", x.count(6), 3);
        due("the first law", x.text(0), 0);
        due("the tape is empty", x.count(6), 0);
        for (int i = 1; i < 6; i++) {
            due("law " + i, law(x, "y:" + i), i);
        }
        due("a seventh law", law(x, "y:7"), -1);
        due("its tape stays", x.count(6), 3);
        due("six laws", x.count(0), 6);
        for (int i = 0; i < 8; i++) {
            due("turning " + i, turning(x, "w:" + i), i);
        }
        due("a ninth turning", turning(x, "w:1"), -1);
        due("eight turnings", x.count(1), 8);
        x.person(0, 0, 0, false);
        due("each law is its own", worth(x, 4, 0, 0), 4);
        due("the first law stays", worth(x, 0, 0, 0), 1);
        due("each turning is its own", x.bars(0), 32);
        due("each turning is its own", x.bars(7), 0);
    }

    private static void promise6Person() {
        NotEnded x = new NotEnded();
        int[][] bad = {{-1, 0, 0}, {101, 0, 0}, {0, -1, 0}, {0, 100, 0}, {0, 0, -1}, {0, 0, 4}};
        for (int[] b : bad) {
            due("person out of bounds", x.person(b[0], b[1], b[2], false), -1);
        }
        due("nobody came", x.count(2), 0);
        due("the least", x.person(0, 0, 0, false), 0);
        due("the most", x.person(100, 99, 3, true), 1);
        law(x, "y:v;g:p");
        due("it holds", worth(x, 0, 0, 1), 100);
        due("it put in", worth(x, 0, 1, 1), 99);
        due("its house", x.run(0, 0, 0, 1, 1), 3);
        for (int i = 2; i < 10; i++) {
            due("person " + i, x.person(1, 1, 1, false), i);
        }
        due("an eleventh", x.person(1, 1, 1, false), -1);
        due("ten", x.count(2), 10);
    }

    private static void promise7Know() {
        NotEnded x = withLaw("x:3");
        x.person(60, 0, 0, false);
        x.person(10, 0, 1, false);
        due("before", x.run(0, 0, 1, 1, 0), 10);
        due("alike", x.know(1, 1), false);
        due("no such one", x.know(0, 2), false);
        due("no such one", x.know(-1, 0), false);
        due("no such one", x.know(0, -1), false);
        due("refused ones change nothing", x.run(0, 0, 1, 1, 0), 10);
        due("know", x.know(1, 0), true);
        due("each other", x.run(0, 0, 1, 1, 0), 13);
        due("again", x.know(0, 1), true);
        due("again changes nothing", x.run(0, 0, 1, 1, 0), 13);
        NotEnded z = withLaw("x:3");
        z.person(10, 0, 0, false);
        z.person(60, 0, 1, false);
        z.know(1, 0);
        due("the other way too", z.run(0, 0, 1, 0, 0), 13);
        z.person(20, 0, 2, false);
        z.person(30, 0, 3, false);
        z.know(1, 2);
        z.know(3, 1);
        due("several", z.run(0, 0, 1, 0, 0), 13);
        due("several", z.run(0, 0, 1, 2, 0), 23);
        due("several", z.run(0, 0, 1, 3, 0), 33);
    }

    private static void promise8Word() {
        NotEnded x = withLaw("y:u*10+d");
        x.person(0, 0, 0, false);
        due("out of bounds", x.word(-1), -1);
        due("out of bounds", x.word(48), -1);
        due("none", x.count(3), 0);
        due("at the last hour", x.word(47), 1);
        due("at the first", x.word(0), 2);
        due("at the first again", x.word(0), 3);
        due("a fourth", x.word(2), 4);
        due("a fifth", x.word(3), -1);
        due("four", x.count(3), 4);
        due("both are past", worth(x, 0, 0, 0), 20);
        due("an hour since", x.run(0, 0, 2, 0, 0), 41);
        due("the latest counts", x.run(0, 0, 3, 0, 0), 71);
    }

    private static void reckoned(String sum, int want) {
        NotEnded x = withLaw("y:" + sum);
        x.person(50, 20, 0, false);
        due("worth of " + sum, worth(x, 0, 0, 0), want);
    }

    private static void promise9Reckoning() {
        reckoned("7", 7);
        reckoned("0010", 10);
        reckoned("1-2-3", -4);
        reckoned("2+3*4", 14);
        reckoned("[2+3]*4", 20);
        reckoned("24/4/2", 3);
        reckoned("24/[4/2]", 12);
        reckoned("8/3*3", 6);
        reckoned("10-2*3-1", 3);
        reckoned("[0-7]/2", -3);
        reckoned("7/[0-2]", -3);
        reckoned("7/0", 0);
        reckoned("[0-7]/[v-50]+1", 1);
        reckoned("9999*100", 999900);
        reckoned("1000*1000", 1000000);
        reckoned("9999*9999", 1000000);
        reckoned("0-9999*9999", -1000000);
        reckoned("9999*9999-1", 999999);
        reckoned("9999*9999/9999", 100);
        reckoned("9999*9999*9999/2", 500000);
        reckoned("9999*9999+9999*9999", 1000000);
        reckoned("[0-9999*9999]-9999*9999", -1000000);
        reckoned("9999*[0-9999]*9999+1", -999999);
        reckoned("v+p", 70);
        reckoned(" v * 2 - [ p + 1 ] ", 79);
        reckoned("1+[2*[3+[4*[5+[6*[7+v]]]]]]", 1 + 2 * (3 + 4 * (5 + 6 * 57)));
    }

    private static void held(String condition, boolean want) {
        reckoned(condition + "?1", want ? 1 : 0);
    }

    private static void promise9Conditions() {
        held("v=50", true);
        held("v=51", false);
        held("v<50", false);
        held("v<51", true);
        held("v>50", false);
        held("v>49", true);
        held("!v=50", false);
        held("!!v=50", true);
        held("!v=50|v=50", true);
        held("!(v=50|v=50)", false);
        held("v=50|v=1&v=1", true);
        held("(v=50|v=1)&v=1", false);
        held("v=1&v=1|v=50", true);
        held("v=1&(v=1|v=50)", false);
        held("!v=1&!v=2", true);
        held("!(v=1&v=50)", true);
        held("[v-50]*3=0-0", true);
        held("v*2>p*5", false);
        reckoned("v=50?1;y:2", 1);
        reckoned("v=51?1;y:2", 2);
        reckoned("v=51?1;y:v=52?2", 0);
        reckoned("1;y:2", 1);
        NotEnded x = withLaw("g:1;y:v<9?2;x:3;y:4;g:5");
        x.person(5, 0, 0, false);
        x.person(9, 0, 0, false);
        due("y by its condition", worth(x, 0, 0, 0), 2);
        due("y without", worth(x, 0, 0, 1), 4);
        due("the first g", worth(x, 0, 1, 0), 1);
        due("x", worth(x, 0, 2, 0), 3);
        due("no clause", worth(withOne("y:1"), 0, 2, 0), 0);
    }

    private static NotEnded withOne(String text) {
        NotEnded x = withLaw(text);
        x.person(50, 20, 0, false);
        return x;
    }

    private static void promise9Letters() {
        NotEnded x = withLaw("y:v;g:p;x:n");
        law(x, "y:m;g:s;x:u");
        law(x, "y:d;g:i;x:n*100+m");
        x.person(30, 11, 2, false);
        x.person(41, 12, 2, true);
        x.person(60, 13, 2, false);
        x.person(70, 14, 1, true);
        x.word(0);
        x.word(1);
        int[][] want = {{30, 11, 2, 50, 1, 1, 0, 0}, {41, 12, 2, 45, 0, 1, 0, 0}, {60, 13, 2, 35, 1, 1, 0, 0},
            {70, 14, 0, 0, 0, 1, 0, 0}};
        for (int j = 0; j < 4; j++) {
            for (int i = 0; i < 8; i++) {
                due("letter " + i + " of " + j, worth(x, i / 3, i % 3, j), want[j][i]);
            }
        }
    }

    private static void promise9Refusals() {
        NotEnded x = withOne("y:1");
        int[][] bad = {{-1, 0, 0}, {1, 0, 0}, {0, -1, 0}, {0, 3, 0}, {0, 0, -1}, {0, 0, 1}};
        for (int[] b : bad) {
            due("worth of no such ones", worth(x, b[0], b[1], b[2]), THROWN);
        }
        due("worth of such ones", worth(x, 0, 0, 0), 1);
        due("worth with nothing told", worth(new NotEnded(), 0, 0, 0), THROWN);
    }

    private static void promise10Holding() {
        NotEnded x = withLaw("y:7");
        law(x, "y:0-7");
        law(x, "y:m-v");
        law(x, "y:i");
        law(x, "y:u>0?d+1");
        x.person(50, 0, 0, false);
        x.person(10, 0, 0, false);
        x.person(33, 0, 0, true);
        x.word(3);
        due("no hour", x.run(0, 0, 0, 0, 0), 50);
        due("more", x.run(0, 0, 7, 0, 0), 99);
        due("at most 100", x.run(0, 0, 8, 0, 0), 100);
        due("less", x.run(1, 0, 1, 1, 0), 3);
        due("at least 0", x.run(1, 0, 2, 1, 0), 0);
        due("a sent one never changes", x.run(0, 0, 48, 2, 0), 33);
        // (10 + 33) / 2 and (50 + 33) / 2, both by what was so as the hour began
        due("all at once", x.run(2, 0, 1, 0, 0), 21);
        due("all at once", x.run(2, 0, 1, 1, 0), 41);
        due("by the hour", x.run(3, 0, 4, 1, 0), 16);
        due("before the word", x.run(4, 0, 3, 1, 0), 10);
        due("from the word on", x.run(4, 0, 4, 1, 0), 11);
        due("hours since", x.run(4, 0, 6, 1, 0), 16);
    }

    private static void promise10Telling() {
        NotEnded x = withLaw("x:5");
        law(x, "x:p");
        law(x, "y:0-10;x:3");
        law(x, "x:0-p");
        x.person(60, 7, 0, false);
        x.person(40, 9, 1, false);
        x.person(50, 2, 2, false);
        x.know(0, 1);
        due("told", x.run(0, 0, 1, 1, 0), 45);
        due("told twice", x.run(0, 0, 2, 1, 0), 50);
        due("holds 50 and tells", x.run(0, 0, 3, 1, 2), 2);
        due("but not yet as it was told", x.run(0, 0, 2, 1, 2), -1);
        due("it tells back from then on", x.run(0, 0, 2, 0, 0), 60);
        due("it tells back", x.run(0, 0, 3, 0, 0), 65);
        due("tells without knowing any", x.run(0, 0, 1, 2, 2), 0);
        due("nobody tells that one", x.run(0, 0, 48, 2, 0), 50);
        due("by the x of the one that tells", x.run(1, 0, 1, 1, 0), 47);
        x.know(2, 1);
        due("the sum of all who tell", x.run(1, 0, 1, 1, 0), 49);
        due("y comes first: the first still tells", x.run(2, 0, 1, 1, 0), 33);
        due("the third has less than 50 then", x.run(2, 0, 1, 2, 2), -1);
        due("since when stays", x.run(2, 0, 48, 0, 2), 0);
        due("though it holds less", x.run(2, 0, 48, 0, 0), 0);
        due("x may be below 0", x.run(3, 0, 1, 1, 0), 31);
        due("at least 0", x.run(3, 0, 9, 1, 0), 0);
        NotEnded z = withLaw("y:p;x:0-30");
        z.person(90, 60, 0, false);
        z.person(90, 0, 1, false);
        z.know(0, 1);
        due("within 100 before what it is told", z.run(0, 0, 1, 0, 0), 70);
        due("it told though it holds less behind it", z.run(0, 0, 1, 1, 0), 60);
    }

    private static void promise10WhoIsTold() {
        NotEnded x = withLaw("x:5");
        law(x, "g:n=1?100;x:5");
        x.person(60, 0, 0, false);
        x.person(10, 0, 0, false);
        x.person(10, 0, 1, true);
        x.person(90, 0, 1, true);
        x.person(10, 0, 3, false);
        x.know(0, 1);
        x.know(0, 2);
        x.know(3, 4);
        due("not those in its house", x.run(0, 0, 9, 1, 0), 10);
        due("not sent ones", x.run(0, 0, 9, 2, 0), 10);
        due("sent ones don't tell", x.run(0, 0, 9, 4, 0), 10);
        due("not since any hour", x.run(0, 0, 9, 3, 2), -1);
        due("in its house as the hour began", x.run(1, 0, 1, 1, 0), 10);
        due("both at home: in no house", x.run(1, 0, 2, 1, 0), 15);
    }

    private static void promise10Going() {
        NotEnded x = withLaw("g:30");
        law(x, "g:100");
        law(x, "g:99");
        law(x, "g:0-5");
        law(x, "y:n*10+m+s");
        law(x, "y:n;g:v>9?100");
        x.person(1, 0, 0, false);
        x.person(2, 0, 1, true);
        x.person(10, 0, 1, false);
        for (long seed = -3; seed < 40; seed++) {
            long draw = seed;
            int[] goneAt = {-1, -1, -1};
            for (int hour = 0; hour < 48; hour++) {
                for (int j = 0; j < 3; j += 2) {
                    if (goneAt[j] < 0) {
                        draw = draw * 6364136223846793005L + 1442695040888963407L;
                        goneAt[j] = (draw >>> 33) % 100 < 30 ? hour : -1;
                    }
                }
            }
            for (int j = 0; j < 3; j += 2) {
                int house = j == 0 ? 0 : 1;
                due("in its house", x.run(0, seed, goneAt[j] < 0 ? 48 : goneAt[j], j, 1), house);
                due("home", goneAt[j] < 0 ? -1 : x.run(0, seed, goneAt[j] + 1, j, 1), -1);
            }
        }
        due("a sent one never goes", x.run(1, 5, 48, 1, 1), 1);
        due("all others go", x.run(1, 5, 1, 0, 1), -1);
        due("below 0 nobody goes", x.run(3, 5, 48, 0, 1), 0);
        due("n, m, s in a house", x.run(4, 0, 1, 2, 0), 23);
        due("it counts as it goes", x.run(5, 0, 1, 2, 0), 11);
        due("n is 0 at home", x.run(5, 0, 9, 2, 0), 11);
        NotEnded z = withLaw("y:s*7+m+d;g:100");
        z.person(1, 0, 1, false);
        z.person(2, 0, 1, true);
        due("m and s in a house, d without a word", z.run(0, 0, 1, 0, 0), 10);
        due("m and s are 0 at home", z.run(0, 0, 9, 0, 0), 10);
    }

    private static void promise10Refusals() {
        NotEnded x = withOne("y:1");
        due("run", x.run(0, 0, 48, 0, 0), 98);
        int[][] bad = {{-1, 0, 0, 0}, {1, 0, 0, 0}, {0, -1, 0, 0}, {0, 49, 0, 0}, {0, 0, -1, 0}, {0, 0, 1, 0},
            {0, 0, 0, -1}, {0, 0, 0, 3}};
        for (int[] b : bad) {
            due("run of no such ones", x.run(b[0], 0, b[1], b[2], b[3]), -1000);
        }
    }

    private static void promise11All() {
        NotEnded x = withLaw("y:0-1;g:v<25?100");
        due("nobody is home", x.all(0, 0, 48, 0), 0);
        due("nobody gave up", x.all(0, 0, 48, 1), 0);
        x.person(20, 0, 0, false);
        x.person(26, 0, 0, false);
        x.person(19, 0, 1, true);
        x.person(20, 0, 1, true);
        x.person(90, 0, 1, false);
        due("home behind no hour", x.all(0, 0, 0, 0), 0);
        due("less than 20", x.all(0, 0, 0, 1), 4);
        due("home behind an hour", x.all(0, 0, 1, 0), 1);
        due("less than 20 then", x.all(0, 0, 1, 1), 5);
        due("home behind three", x.all(0, 0, 3, 0), 2);
        due("at the end", x.all(0, 0, 48, 1), 7);
        due("no such law", x.all(1, 0, 48, 1), -1);
        due("no such law", x.all(-1, 0, 48, 1), -1);
        due("no such hours", x.all(0, 0, 49, 1), -1);
        due("no such hours", x.all(0, 0, -1, 1), -1);
        due("no such thing", x.all(0, 0, 48, 2), -1);
        due("no such thing", x.all(0, 0, 48, -1), -1);
    }

    private static void promise12Without() {
        NotEnded x = withLaw("y:i=0?n*10+s");
        law(x, "y:i=0?m;x:i=0?5");
        law(x, "g:50;y:n");
        x.person(10, 0, 0, false);
        x.person(20, 0, 0, true);
        x.person(60, 0, 0, false);
        x.person(70, 0, 1, false);
        x.know(0, 3);
        due("without nobody", x.without(0, 0, 0, 0), 31);
        due("without the sent one", x.without(0, 0, 2, 0), 20);
        due("without two", x.without(0, 0, 6, 0), 10);
        due("the mean of the others", x.without(1, 0, 4, 0), 35);
        due("they don't tell", x.without(1, 0, 8, 0), 50);
        due("all others told", x.without(1, 0, 0, 0), 55);
        NotEnded z = withLaw("g:50;y:n");
        z.person(0, 0, 0, false);
        z.person(0, 0, 1, false);
        z.person(0, 0, 1, true);
        NotEnded only = withLaw("g:50;y:n");
        only.person(0, 0, 1, false);
        only.person(0, 0, 1, true);
        for (long seed = 0; seed < 30; seed++) {
            due("they draw nothing", z.without(0, seed, 1, 1), only.run(0, seed, 48, 0, 0));
        }
        due("itself among them", x.without(0, 0, 3, 0), -1000);
        due("no such ones", x.without(0, 0, 16, 0), -1000);
        due("no such ones", x.without(0, 0, -2, 0), -1000);
        due("no such ones", x.without(0, 0, 1 << 31, 0), -1000);
        due("no such law", x.without(3, 0, 0, 0), -1000);
        due("no such person", x.without(0, 0, 0, 4), -1000);
        due("no such person", x.without(0, 0, 0, -1), -1000);
        due("a sent one", x.without(0, 0, 1, 1), 20);
    }

    private static void promise13Did() {
        NotEnded x = withLaw("y:s-1");
        x.person(50, 0, 0, false);
        x.person(50, 0, 0, true);
        x.person(50, 0, 0, true);
        x.person(60, 0, 1, false);
        due("what they did", x.did(0, 0, 0), 98 - 2);
        due("what they did elsewhere", x.did(0, 0, 3), 0);
        due("a sent one", x.did(0, 0, 1), -1000);
        due("no such one", x.did(0, 0, 4), -1000);
        due("no such one", x.did(0, 0, -1), -1000);
        due("no such law", x.did(1, 0, 0), -1000);
        due("no such law", x.did(-1, 0, 0), -1000);
    }

    private static void promise14Lean() {
        NotEnded x = withLaw("y:i=0?p+n*2+m");
        law(x, "y:i=1?0-p");
        law(x, "x:i=0?4");
        x.person(10, 5, 0, false);
        x.person(30, 6, 0, false);
        x.person(40, 7, 0, true);
        x.person(80, 0, 0, false);
        x.know(0, 3);
        due("on what it put in", x.lean(0, 0, 0, 0), 5);
        due("on those near", x.lean(0, 0, 0, 1), 6 + 50);
        due("below 0", x.lean(1, 0, 1, 0), -6);
        due("at home it is told by those that were near", x.lean(2, 0, 0, 1), -4);
        due("a sent one", x.lean(0, 0, 2, 0), -1000);
        due("no such one", x.lean(0, 0, 4, 0), -1000);
        due("no such one", x.lean(0, 0, -1, 0), -1000);
        due("no such law", x.lean(3, 0, 0, 0), -1000);
        due("no such thing", x.lean(0, 0, 0, 2), -1000);
        due("no such thing", x.lean(0, 0, 0, -1), -1000);
        NotEnded z = withLaw("g:50;y:n");
        z.person(0, 0, 0, false);
        z.person(0, 0, 0, false);
        z.person(0, 0, 0, true);
        due("told stays as it is", z.run(0, 7, 48, 0, 0), z.without(0, 7, 0, 0));
        for (long seed = 0; seed < 30; seed++) {
            due("at home it draws nothing", z.lean(0, seed, 0, 1), z.run(0, seed, 48, 0, 0));
        }
    }

    private static void promise15Note() {
        NotEnded x = new NotEnded();
        due("of nobody", x.note(0, 0, 0, 0, 0), -1);
        x.person(0, 0, 0, false);
        int[][] bad = {{-1, 0, 0, 0, 0}, {1, 0, 0, 0, 0}, {0, -1, 0, 0, 0}, {0, 49, 0, 0, 0}, {0, 0, -1, 0, 0},
            {0, 0, 2, 0, 0}, {0, 0, 0, -1, 0}, {0, 0, 0, 101, 0}, {0, 0, 0, 0, -1}, {0, 0, 0, 0, 51},
            {0, 0, 1, -2, 0}, {0, 0, 1, 4, 0}};
        for (int[] b : bad) {
            due("note of no such ones", x.note(b[0], b[1], b[2], b[3], b[4]), -1);
        }
        due("no note yet", x.count(4), 0);
        due("first", x.note(0, 48, 0, 100, 50), 1);
        due("second", x.note(0, 0, 1, -1, 0), 2);
        due("third", x.note(0, 0, 1, 3, 0), 3);
        due("how far off is no matter of houses", x.note(0, 0, 1, 3, 99), 4);
        for (int i = 5; i <= 20; i++) {
            due("note " + i, x.note(0, 0, 0, 0, 0), i);
        }
        due("a 21st", x.note(0, 0, 0, 0, 0), -1);
        due("twenty", x.count(4), 20);
    }

    private static void promise16Fits() {
        NotEnded x = withLaw("y:1");
        law(x, "y:2");
        law(x, "y:i=0?1;g:100");
        x.person(10, 0, 0, false);
        x.person(20, 0, 1, false);
        x.person(30, 0, 1, true);
        due("without notes all fit", x.fits(0, false), 7);
        x.note(0, 0, 0, 10, 0);
        due("as hour 0 begins", x.fits(0, false), 7);
        x.note(0, 1, 0, 11, 0);
        due("as hour 1 begins", x.fits(0, false), 5);
        due("of those alone", x.fits(0, true), 5);
        x.note(1, 48, 0, 19, 2);
        due("so far off at most", x.fits(0, false), 4);
        due("that one is not alone", x.fits(0, true), 5);
        x.note(0, 1, 1, -1, 0);
        due("home", x.fits(0, true), 4);
        x.note(0, 0, 1, 0, 0);
        due("in its house", x.fits(0, true), 4);
        x.note(1, 48, 0, 18, 2);
        due("one too far off", x.fits(0, false), 0);
        NotEnded z = withOne("y:1");
        z.note(0, 48, 0, 98, 0);
        due("as hour 48 begins", z.fits(0, false), 1);
        z.note(0, 2, 0, 55, 3);
        due("just so far off", z.fits(0, false), 1);
        z.note(0, 2, 0, 55, 2);
        due("further off", z.fits(0, true), 0);
        NotEnded s = withLaw("y:1");
        s.person(9, 0, 0, true);
        s.note(0, 9, 0, 8, 0);
        due("of a sent one", s.fits(0, true), 0);
        s.person(1, 1, 0, false);
        due("no longer alone", s.fits(0, true), 1);
        due("not alone, but noted", s.fits(0, false), 0);
    }

    private static void promise17Books() {
        NotEnded x = withLaw("y:0-1;g:100");
        due("nobody", x.books(0, 0, 0), 0);
        due("nobody", x.books(0, 0, 1), 0);
        x.person(50, 0, 2, false);
        x.person(90, 0, 3, true);
        due("no books", x.books(0, 0, 0), 0);
        due("no books lean", x.books(0, 0, 1), 0);
        x.person(80, 0, 1, false);
        x.person(49, 0, 1, false);
        x.person(51, 0, 0, false);
        due("houses as told", x.books(0, 0, 0), 3);
        // at the end: 2, 32, 1, 3; in books (32 + 1 + 3) / 3, of all 38 / 4
        due("leans by", x.books(0, 0, 1), 12 - 9);
        due("no such law", x.books(1, 0, 0), -1000);
        due("no such law", x.books(-1, 0, 0), -1000);
        due("no such thing", x.books(0, 0, 2), -1000);
        due("no such thing", x.books(0, 0, -1), -1000);
        NotEnded z = withLaw("y:0-v");
        law(z, "y:v>60?0-v");
        z.person(99, 0, 0, false);
        z.person(55, 0, 1, false);
        due("only what is behind y tells", z.books(0, 0, 0), 0);
        due("what gave up does not", z.books(1, 0, 0), 2);
        due("a mean above all's", z.books(1, 0, 1), 55 - 27);
        NotEnded w = withLaw("y:0");
        w.person(50, 0, 0, false);
        due("the first one's house", w.books(0, 0, 0), 1);
        w.person(49, 0, 1, false);
        due("means are cut", w.books(0, 0, 1), 50 - 49);
        w.person(40, 0, 1, false);
        w.person(33, 0, 0, false);
        due("each by itself", w.books(0, 0, 1), 41 - 43);
    }

    private static void promise18Odds() {
        NotEnded x = withLaw("g:p");
        law(x, "y:0-1;g:v*2");
        law(x, "g:p-50");
        law(x, "g:p*2");
        law(x, "g:i=0?100;g:7");
        due("nobody may", x.odds(0, 0, 0, 0), 1);
        x.person(10, 10, 0, false);
        x.person(20, 60, 0, false);
        x.person(20, 60, 0, true);
        due("none goes", x.odds(0, 0, 0, 0), 90 * 40);
        due("one goes", x.odds(0, 0, 0, 1), 10 * 40 + 90 * 60);
        due("both go", x.odds(0, 0, 0, 2), 600);
        due("three of two", x.odds(0, 0, 0, 3), 0);
        due("eight of two", x.odds(0, 0, 0, 8), 0);
        due("chances of at least 0", x.odds(2, 0, 0, 0), 100 * 90);
        due("chances of at most 100", x.odds(3, 0, 0, 1), 8000);
        due("chances of at most 100", x.odds(3, 0, 0, 2), 2000);
        due("those at home don't go", x.odds(4, 0, 1, 0), 1);
        int law = law(x, "y:0-v;g:i=47?9");
        due("by the letters of that hour", x.odds(law, 0, 47, 0), 91 * 91);
        due("no such law", x.odds(6, 0, 0, 0), -1);
        due("no such law", x.odds(-1, 0, 0, 0), -1);
        due("no such hours", x.odds(0, 0, -1, 0), -1);
        due("no such hours", x.odds(0, 0, 48, 0), -1);
        due("no such k", x.odds(0, 0, 0, -1), -1);
        due("no such k", x.odds(0, 0, 0, 9), -1);
        NotEnded z = withLaw("g:p");
        for (int i = 0; i < 8; i++) {
            z.person(0, 50, 0, false);
        }
        due("four of eight", z.odds(0, 0, 0, 4), 70L * 39062500000000L);
        due("eight of eight", z.odds(0, 0, 0, 8), 39062500000000L);
        z.person(0, 50, 0, true);
        due("a sent one may not", z.odds(0, 0, 0, 8), 39062500000000L);
        z.person(0, 50, 0, false);
        due("nine may", z.odds(0, 0, 0, 0), -1);
    }

    private static void promise19And20LetsBars() {
        NotEnded x = new NotEnded();
        turning(x, "w:a");
        turning(x, "w:e=1&b=0?0-1");
        turning(x, "w:a+b+c+d+e>4?0;w:1");
        turning(x, "w:0");
        turning(x, "w:a-b");
        for (int outcome = 0; outcome < 32; outcome++) {
            due("a", x.lets(0, outcome), outcome & 1);
            due("e without b", x.lets(1, outcome), outcome >= 16 && (outcome & 2) == 0 ? 1 : 0);
            due("not all", x.lets(2, outcome), outcome == 31 ? 0 : 1);
            due("none", x.lets(3, outcome), 0);
            due("not alike", x.lets(4, outcome), (outcome & 1) != (outcome >> 1 & 1) ? 1 : 0);
        }
        int[] bars = {16, 24, 1, 32, 16};
        for (int i = 0; i < 5; i++) {
            due("bars " + i, x.bars(i), bars[i]);
        }
        turning(x, "w:1");
        due("never wrong", x.bars(5), 0);
        int[][] bad = {{-1, 0}, {6, 0}, {0, -1}, {0, 32}};
        for (int[] b : bad) {
            due("lets of no such ones", x.lets(b[0], b[1]), -1);
        }
        due("bars of no such one", x.bars(6), -1);
        due("bars of no such one", x.bars(-1), -1);
    }

    private static void promise21Bolder() {
        NotEnded x = new NotEnded();
        turning(x, "w:a");
        turning(x, "w:a*b");
        turning(x, "w:b");
        turning(x, "w:1");
        turning(x, "w:a=1?5");
        due("bars more", x.bolder(1, 0), 1);
        due("bars less", x.bolder(0, 1), 0);
        due("bars others", x.bolder(0, 2), 0);
        due("bars any", x.bolder(0, 3), 1);
        due("bars the same", x.bolder(0, 4), 0);
        due("itself", x.bolder(0, 0), 0);
        due("no such one", x.bolder(0, 5), -1);
        due("no such one", x.bolder(5, 0), -1);
        due("no such one", x.bolder(-1, 0), -1);
        due("no such one", x.bolder(0, -1), -1);
    }

    private static void promise22And23SayStayed() {
        NotEnded x = withLaw("y:0");
        law(x, "y:v<70?0-1");
        x.person(50, 0, 0, false);
        x.person(49, 0, 0, false);
        x.person(90, 0, 0, false);
        x.person(60, 0, 0, true);
        turning(x, "w:a");
        turning(x, "w:b");
        due("nobody said a thing", x.stayed(0, 0, 1), 0);
        for (int j = 0; j < 4; j++) {
            due("say", x.say(j, 0), true);
        }
        due("who hold 50 or more", x.stayed(0, 0, 1), 13);
        due("who hold it at the end", x.stayed(1, 0, 1), 12);
        due("an outcome that it bars", x.stayed(0, 0, 2), 0);
        due("say another", x.say(2, 1), true);
        due("each its own", x.stayed(0, 0, 2), 4);
        due("no such turning", x.say(2, 2), false);
        due("no such turning", x.say(2, -2), false);
        due("no such person", x.say(4, 0), false);
        due("no such person", x.say(-1, 0), false);
        due("refused ones change nothing", x.stayed(0, 0, 3), 13);
        due("say nothing", x.say(2, -1), true);
        due("nothing was said", x.stayed(0, 0, 3), 9);
        due("no such law", x.stayed(2, 0, 0), -1);
        due("no such law", x.stayed(-1, 0, 0), -1);
        due("no such outcome", x.stayed(0, 0, 32), -1);
        due("no such outcome", x.stayed(0, 0, -1), -1);
    }

    private static void promise24Act() {
        NotEnded x = new NotEnded();
        x.person(50, 50, 0, false);
        x.person(50, 50, 0, true);
        int[][] bad = {{-1, 0, 0, 1}, {2, 0, 0, 1}, {1, 0, 0, 1}, {0, -1, 0, 1}, {0, 3, 0, 1}, {0, 0, -1, 1},
            {0, 0, 100, 1}, {0, 1, -1, 1}, {0, 1, 4, 1}, {0, 2, 0, 1}, {0, 2, 2, 1}, {0, 2, -1, 1}, {0, 0, 0, 0},
            {0, 0, 0, 51}};
        for (int[] b : bad) {
            due("act of no such ones", x.act(b[0], b[1], b[2], b[3]), -1);
        }
        due("none yet", x.count(5), 0);
        due("given back", x.act(0, 0, 99, 50), 0);
        due("nothing given back", x.act(0, 0, 0, 1), 1);
        due("a house", x.act(0, 1, 3, 1), 2);
        due("a house", x.act(0, 1, 0, 1), 3);
        due("a person", x.act(0, 2, 1, 1), 4);
        due("again", x.act(0, 2, 1, 1), 5);
        due("a seventh", x.act(0, 2, 1, 1), -1);
        due("six", x.count(5), 6);
    }

    private static void promise25Help() {
        NotEnded x = withLaw("y:0-10+p+n*9");
        law(x, "y:i=0?0-v+p*2");
        x.person(60, 9, 0, false);
        x.person(60, 30, 0, false);
        x.person(15, 0, 1, true);
        x.person(60, 0, 1, true);
        due("nothing helps", x.help(0, 0, 0, 0), -1);
        due("nothing helps", x.help(0, 0, 0, 1), -1);
        due("no help is needed", x.help(0, 0, 2, 0), 0);
        due("at no cost", x.help(0, 0, 2, 1), 0);
        due("a sent one that holds on", x.help(0, 0, 3, 0), -1);
        x.act(0, 0, 5, 2);
        due("that does not", x.help(0, 0, 0, 0), -1);
        x.act(0, 2, 1, 30);
        due("nobody near", x.help(0, 0, 0, 0), 2);
        due("at the cost of", x.help(0, 0, 0, 1), 30);
        x.act(0, 1, 3, 9);
        due("another house", x.help(0, 0, 0, 0), 4);
        due("at the cost of", x.help(0, 0, 0, 1), 9);
        due("acts of another one", x.help(0, 0, 1, 0), -1);
        x.act(1, 0, 11, 7);
        x.act(1, 0, 10, 5);
        x.act(1, 0, 99, 13);
        due("given back twice", x.help(1, 0, 1, 0), 8 + 16);
        due("at the cost of both", x.help(1, 0, 1, 1), 12);
        due("more given back than it put in", x.help(0, 0, 1, 0), 32);
        due("asking changed nothing", x.run(1, 0, 48, 1, 0), 60);
        due("no such law", x.help(2, 0, 0, 0), -1);
        due("no such law", x.help(-1, 0, 0, 0), -1);
        due("no such person", x.help(0, 0, 4, 0), -1);
        due("no such person", x.help(0, 0, -1, 0), -1);
        due("no such thing", x.help(0, 0, 0, 2), -1);
        due("no such thing", x.help(0, 0, 0, -1), -1);
    }

    private static void promise25Ties() {
        NotEnded x = withLaw("y:i=0?p*2-99");
        x.person(50, 90, 0, false);
        x.act(0, 0, 30, 2);
        x.act(0, 0, 30, 2);
        x.act(0, 0, 30, 2);
        x.act(0, 0, 60, 4);
        due("the fewest", x.help(0, 0, 0, 0), 8);
        x.act(0, 0, 60, 4);
        due("the lower act", x.help(0, 0, 0, 0), 8);
        NotEnded z = withLaw("y:i=0?p*2-99");
        z.person(50, 90, 0, false);
        for (int i = 0; i < 4; i++) {
            z.act(0, 0, 30, 2);
        }
        due("the lower acts", z.help(0, 0, 0, 0), 3);
        NotEnded w = withLaw("y:i=0?p*2-99");
        w.person(50, 90, 0, false);
        w.act(0, 0, 40, 4);
        w.act(0, 0, 30, 3);
        w.act(0, 0, 30, 3);
        w.act(0, 0, 16, 2);
        // 56 must be given back: 0 with 3 and 1 with 2 do it at the same cost
        due("the lower where two first differ", w.help(0, 0, 0, 0), 1 + 8);
        NotEnded h = withLaw("y:n*50-20");
        h.person(50, 0, 0, false);
        h.person(50, 0, 1, true);
        h.person(50, 0, 0, true);
        h.act(0, 1, 3, 5);
        h.act(0, 1, 1, 5);
        due("the house alone", h.help(0, 0, 0, 0), 1);
        NotEnded m = withLaw("y:p+n*50-20");
        m.person(50, 30, 0, false);
        m.person(50, 0, 1, true);
        m.act(0, 1, 1, 1);
        m.act(0, 0, 30, 1);
        due("its own house will do", m.help(0, 0, 0, 0), 2);
        NotEnded just = withLaw("y:i=0?p+n-50");
        just.person(50, 21, 0, false);
        just.person(50, 0, 3, true);
        just.act(0, 0, 1, 1);
        just.act(0, 1, 3, 1);
        due("less than 20, not 20", just.help(0, 0, 0, 0), -1);
        just.act(0, 0, 1, 1);
        due("both of them, no house", just.help(0, 0, 0, 0), 5);
        NotEnded last = withLaw("y:s=1?0-9");
        last.person(50, 0, 0, false);
        last.person(50, 0, 1, true);
        last.person(50, 0, 2, false);
        last.person(50, 0, 2, true);
        last.act(0, 1, 1, 1);
        due("that house", last.help(0, 0, 0, 0), 1);
        NotEnded two = withLaw("y:n+s=1?0-9;y:9");
        two.person(50, 0, 0, false);
        two.person(50, 0, 2, false);
        two.person(50, 0, 2, false);
        two.act(0, 1, 2, 1);
        two.act(0, 2, 1, 1);
        two.act(0, 1, 3, 1);
        due("a house and one that is not there", two.help(0, 0, 0, 0), 3);
    }

    private static void promise26Lookers() {
        NotEnded x = withLaw("y:s>1?0-9;y:0");
        law(x, "y:s>0?0-9");
        law(x, "y:s=1?0-9");
        law(x, "y:s");
        due("nobody is sent", x.lookers(0, 0), 0);
        x.person(0, 0, 0, true);
        x.person(60, 0, 0, false);
        x.person(0, 0, 0, true);
        x.person(0, 0, 1, true);
        x.person(0, 0, 0, true);
        x.person(40, 0, 1, false);
        due("one near, the lower one", x.lookers(0, 0), 1 + 8);
        due("none near", x.lookers(1, 0), 8);
        due("a larger set where a smaller one fails", x.lookers(2, 0), 1 + 4 + 8 + 16);
        due("not one more who holds on", x.lookers(3, 0), 1 + 4 + 16);
        due("no such law", x.lookers(4, 0), -1);
        due("no such law", x.lookers(-1, 0), -1);
        NotEnded z = withLaw("y:m>50?0-9");
        z.person(60, 0, 0, false);
        z.person(90, 0, 0, true);
        z.person(20, 0, 0, true);
        z.person(70, 0, 0, true);
        z.person(10, 0, 0, true);
        due("all of them", z.lookers(0, 0), 30);
        NotEnded w = withLaw("y:m>50?0-9");
        w.person(60, 0, 0, false);
        w.person(80, 0, 0, true);
        w.person(99, 0, 0, true);
        w.person(20, 0, 0, true);
        due("the lower ones that can be there", w.lookers(0, 0), 2 + 8);
        NotEnded h = withLaw("y:s>0?0-1");
        h.person(98, 0, 0, false);
        h.person(50, 0, 0, true);
        h.person(97, 0, 1, false);
        h.person(50, 0, 1, true);
        h.person(98, 0, 2, false);
        h.person(50, 0, 2, true);
        h.person(49, 0, 3, false);
        h.person(50, 0, 3, true);
        due("50 or more", h.lookers(0, 0), 2 + 32 + 128);
        NotEnded e = withLaw("y:s>0&v>50?0-1");
        e.person(60, 0, 0, false);
        e.person(50, 0, 0, true);
        due("50 itself", e.lookers(0, 0), 2);
    }

    private static void promise27Count() {
        NotEnded x = withLaw("y:1");
        law(x, "y:1");
        turning(x, "w:1");
        for (int i = 0; i < 5; i++) {
            x.person(1, 1, 1, false);
        }
        x.word(1);
        x.word(2);
        x.word(3);
        for (int i = 0; i < 7; i++) {
            x.note(0, 0, 0, 0, 0);
        }
        x.act(0, 0, 0, 1);
        feed(x, "abcdef");
        int[] want = {2, 1, 5, 3, 7, 1, 6};
        for (int i = 0; i < 7; i++) {
            due("count " + i, x.count(i), want[i]);
        }
        due("count of others", x.count(7), -1);
        due("count of others", x.count(-1), -1);
    }

    /** Every row at its end: no call may reach behind it. */
    private static void everythingFull() {
        NotEnded x = new NotEnded();
        for (int j = 0; j < 10; j++) {
            due("person", x.person(55 + j, 50 - j, 0, j % 3 == 2), j);
        }
        for (int j = 0; j < 10; j++) {
            for (int k = 0; k < 10; k++) {
                due("know", x.know(j, k), j != k);
            }
        }
        for (int i = 0; i < 4; i++) {
            x.word(i);
        }
        for (int i = 0; i < 6; i++) {
            due("law", law(x, "y:0-1;g:[v-50]*" + i + ";x:" + i), i);
        }
        for (int i = 0; i < 8; i++) {
            due("turning", turning(x, "w:a+b+c+d+e>" + i + "?1"), i);
        }
        for (int i = 0; i < 20; i++) {
            due("note", x.note(9, 48, 1, i % 2 - 1, 0), i + 1);
        }
        for (int i = 0; i < 6; i++) {
            due("act", x.act(9, 2, i, 50), i);
        }
        for (int j = 0; j < 10; j++) {
            due("say", x.say(j, 7), true);
        }
        due("letters of the last", worth(x, 0, 0, 9), -1);
        // the last one holds 64 and loses one an hour, and its nine are still in their house
        due("run", x.run(0, 0, 48, 9, 0), 16);
        due("place", x.run(0, 0, 48, 9, 1), 0);
        due("since when", x.run(0, 0, 48, 9, 2), 0);
        due("left", x.all(0, 0, 48, 0), 0);
        due("given up", x.all(0, 0, 48, 1), 1 + 2 + 8 + 16 + 64 + 128 + 512);
        due("without", x.without(0, 0, 511, 9), 16);
        due("did", x.did(0, 0, 9), 0);
        due("lean", x.lean(0, 0, 9, 0), 0);
        due("lean", x.lean(0, 0, 9, 1), 0);
        due("fits", x.fits(0, false), 0);
        due("fits alone", x.fits(0, true), 63);
        due("books", x.books(0, 0, 0), 1);
        due("kept", x.books(0, 0, 1), 0);
        due("odds", x.odds(0, 0, 0, 8), 0);
        due("odds", x.odds(0, 0, 47, 0), 100_000_000_000_000L);
        due("stayed", x.stayed(0, 0, 31), 0);
        due("help", x.help(0, 0, 9, 0), 0);
        due("lookers", x.lookers(0, 0), 4 + 32 + 256);
        due("bars", x.bars(3), 26);
        due("bolder", x.bolder(7, 0), 1);
        due("a text of 30 clauses", x.text(0), -1);
        NotEnded z = new NotEnded();
        due("a text of 30 clauses", law(z, times("g:1;", 29) + "y:7"), 0);
        due("a text of 59 numbers", law(z, "y:" + times("1+", 58) + "1"), 1);
        due("a text as deep as may be", law(z, "y:1=2|1=1&(1=2|1=1&(1=2|1=1&(1+1*[1+1*[1+1*[1+1*1]]]=5)))?6"), 2);
        z.person(0, 0, 0, false);
        due("the last clause", worth(z, 0, 0, 0), 7);
        due("all numbers", worth(z, 1, 0, 0), 59);
        due("all that is open", worth(z, 2, 0, 0), 6);
    }
}
