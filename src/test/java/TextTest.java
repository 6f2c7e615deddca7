/** Promises 1 to 5, and the faults of all three kinds of text. */
public final class TextTest {
    private static final String S = "section s 1;";
    private static final String ST = "section s 1;section t 1;";

    private TextTest() {
    }

    public static void main(String[] args) {
        newObject();
        feeding();
        ending();
        layouts();
        faultsOfTokens();
        faultsOfNumbers();
        faultsOfNames();
        faultsOfRoutes();
        faultsOfTooMany();
        tooManyBytes();
        latestFault();
        faultsOfBooks();
        faultsOfSentences();
        Check.finish("TextTest");
    }

    private static void newObject() {
        Check.part("promise 1");
        LeverFrame x = new LeverFrame();
        for (int what = 0; what <= 8; what++) {
            Check.due("count " + what, x.count(what), what == 7 ? 3 : 0);
        }
        Check.due("now 0", x.now(0), 0);
        Check.due("fault", x.fault(), 0);
        Check.due("section", x.section(0, 0), -1);
        Check.due("NONE", LeverFrame.NONE, -1);
    }

    private static void feeding() {
        Check.part("promise 2");
        LeverFrame x = new LeverFrame();
        for (int i = 1; i <= 73; i++) {
            Check.due("feed " + i, x.feed(i, -i, 0, Integer.MIN_VALUE, Integer.MAX_VALUE), 20 * i);
        }
        Check.due("feed too much", x.feed(0, 0, 0, 0, 0), -1);
        Check.due("bytes", x.count(8), 1460);
        x.end(1441);
        Check.due("feed one byte too much", x.feed(0, 0, 0, 0, 0), -1);
        Check.due("bytes", x.count(8), 1441);
        x.end(1440);
        Check.due("feed the last", x.feed(0, 0, 0, 0, 0), 1460);
        // "hold 17;" behind each other: the highest byte of each number is the first.
        x.end(0);
        x.feed(0x686f6c64, 0x2031373b, 0, 0, 0);
        x.end(8);
        Check.due("layout", x.layout(), 1);
        Check.due("hold", x.count(7), 17);
        // A byte of 255 is one byte, not a negative one.
        x.feed(0xffffffff, 0, 0, 0, 0);
        x.end(2);
        Check.due("fits by 255", x.fits(), -1);
    }

    private static void ending() {
        Check.part("promise 3");
        LeverFrame x = new LeverFrame();
        Check.due("end 0 of none", x.end(0), true);
        Check.due("end 1 of none", x.end(1), false);
        Check.due("end -1 of none", x.end(-1), false);
        x.feed(1, 2, 3, 4, 5);
        Check.due("end 21", x.end(21), false);
        Check.due("end least", x.end(Integer.MIN_VALUE), false);
        Check.due("bytes stay", x.count(8), 20);
        Check.due("end 20", x.end(20), true);
        Check.due("end 7", x.end(7), true);
        Check.due("end 8", x.end(8), false);
        Check.due("bytes", x.count(8), 7);
        Check.due("feed behind", x.feed(0, 0, 0, 0, 0), 27);
    }

    private static void layouts() {
        Check.part("promise 4");
        LeverFrame x = new LeverFrame();
        Check.due("layout of nothing", x.layout(), 0);
        Check.due("junction", Check.layout(x, Check.JUNCTION), 29);
        Check.due("sections", x.count(0), 4);
        Check.due("bytes", x.count(8), 0);
        Check.due("blanks alone", Check.layout(x, " \n \n"), 0);
        Check.due("sections", x.count(0), 0);
        Check.due("hold", x.count(7), 3);
        Check.due("no blanks but where they part words", Check.layout(x, "section a 1;section\nb\n007 ;\nhold 30;"), 3);
        Check.due("long", x.section(1, 0), 7);
        // Seven letters, none of the words told.
        Check.due("names", Check.layout(x, "section sectiom 1;section z 1;section tickss 1;"), 3);
        // Tracks with the same points, alike lies too, and points of the second section.
        Check.due("tracks", Check.layout(x, "section a 1;section b 1;section c 1;points p b;"
                + "track a b p normal;track b c p normal;track c a;"), 7);
        Check.due("tracks", x.count(2), 3);
        // A new layout leaves nothing of the old one's state.
        Check.layout(x, Check.JUNCTION);
        x.set(0);
        x.fail(2, 0);
        x.ticks(5);
        Check.sentence(x, "out");
        Check.layout(x, Check.JUNCTION);
        Check.due("tick", x.now(0), 0);
        Check.due("routes not free", x.now(2), 0);
        Check.due("fails", x.section(2, 3), 0);
        Check.due("train's section", Check.train(x, 0, 0), 0);
        Check.due("train's ticks", Check.train(x, 0, 2), 0);
        Check.due("waits", Check.train(x, 1, 4), 0);
        Check.due("waited", Check.train(x, 1, 5), 0);
        Check.due("no sentence", x.said(-1), -1);
        Check.due("nothing to undo", x.undo(), -1);
    }

    private static void faultsOfTokens() {
        Check.part("faults 1 of layouts");
        Check.badLayout("^;", 1);
        Check.badLayout("^s 1;", 1);
        Check.badLayout("^12;", 1);
        Check.badLayout("^Section s 1;", 1);
        Check.badLayout("^sections s 1;", 1);
        Check.badLayout("^set s;", 1);
        Check.badLayout("^normal;", 1);
        Check.badLayout("section ^s1 1;", 1);
        Check.badLayout("section ^1s 1;", 1);
        Check.badLayout("section ^abcdefgh 1;", 1);
        Check.badLayout("section ^5 1;", 1);
        Check.badLayout("section ^; s 1;", 1);
        for (String word : ("section points track signal route over lock train hold normal reverse down up set back throw "
                + "fail clear full mend tick or and not out crashed waiting in using ticks waited number").split(" ")) {
            Check.badLayout("section ^" + word + " 1;", 1);
        }
        Check.badLayout("section s ^t;", 1);
        Check.badLayout("section s ^1000;", 1);
        Check.badLayout("section s ^;", 1);
        Check.badLayout("section s 1^", 1);
        Check.badLayout("section s 1  ^", 1);
        Check.badLayout("section^", 1);
        Check.badLayout("section s 1 ^2;", 1);
        Check.badLayout("section s 1^.", 1);
        Check.badLayout("section s 1;^.", 1);
        Check.badLayout("section s 1;;".replace(";;", ";^;"), 1);
        Check.badLayout("section s^" + (char) 9 + "1;", 1);
        Check.badLayout("section s^" + (char) 200 + "1;", 1);
        Check.badLayout(S + "signal g s ^left;", 1);
        Check.badLayout(S + "signal g s ^reverse;", 1);
        Check.badLayout(S + "train a s ^;", 1);
        Check.badLayout(ST + "points p s;track s t p ^up;", 1);
        Check.badLayout(ST + "points p s;track s t p^;", 1);
        Check.badLayout(ST + "points p s;track s t ^normal;", 1);
        Check.badLayout(ST + "track s t ^7;", 1);
        Check.badLayout(S + "points p ^down;", 1);
        Check.badLayout("hold ^many;", 1);
    }

    private static void faultsOfNumbers() {
        Check.part("faults 2 of layouts");
        Check.badLayout("section s ^0;", 2);
        Check.badLayout("section s ^000;", 2);
        Check.badLayout("section s ^31;", 2);
        Check.badLayout("section s ^999;", 2);
        Check.badLayout("hold ^0;", 2);
        Check.badLayout("hold ^31;", 2);
    }

    private static void faultsOfNames() {
        Check.part("faults 3 of layouts");
        Check.badLayout(S + "section ^s 1;", 3);
        Check.badLayout(S + "points ^s s;", 3);
        Check.badLayout(S + "signal ^s s down;", 3);
        Check.badLayout(S + "train ^s s down;", 3);
        Check.badLayout("points p ^s;", 3);
        Check.badLayout(S + "points p ^p;", 3);
        Check.badLayout("track ^s t;", 3);
        Check.badLayout(S + "track s ^t;", 3);
        Check.badLayout(S + "track s ^s;", 3);
        Check.badLayout(ST + "track s t;track s ^t;", 3);
        Check.badLayout(ST + "track s t;track t ^s;", 3);
        Check.badLayout(ST + "points p s;track s t p normal;track s ^t p reverse;", 3);
        Check.badLayout(ST + "track s t ^p normal;", 3);
        Check.badLayout(ST + "track s t ^s normal;", 3);
        Check.badLayout(ST + "section u 1;points p u;track s t ^p normal;", 3);
        Check.badLayout(S + "signal g s down;signal h s ^down;", 3);
        Check.badLayout(S + "signal g s up;signal h s down;signal i s ^up;", 3);
        Check.badLayout("signal g ^s down;", 3);
        Check.badLayout("route r ^g;", 3);
        Check.badLayout(S + "route r ^s;", 3);
        Check.badLayout(S + "signal g s up;route ^g g;", 3);
        Check.badLayout("train a ^s down;", 3);
        Check.badLayout(S + "train a s down;train b ^s up;", 3);
        Check.badLayout(S + "train a s down;train ^a s up;", 3);
        Check.badLayout("hold 3;^hold 3;", 3);
        Check.badLayout("hold 3;^hold 31;", 3);
    }

    private static void faultsOfRoutes() {
        Check.part("faults 3 of routes");
        String line = ST + "section u 1;track s t;track t u;signal g t down;route r g;signal h t up;route q h;";
        Check.badLayout("over ^r s;", 3);
        Check.badLayout(S + "over ^s s;", 3);
        Check.badLayout(line + "over r ^r;", 3);
        Check.badLayout(line + "over r ^t;", 3);
        Check.badLayout(line + "over r ^s;", 3);
        Check.badLayout(line + "over q ^u;", 3);
        Check.badLayout(line + "over r u;over r ^u;", 3);
        Check.badLayout(line + "over r u;over r ^t;", 3);
        Check.badLayout(line + "over r u;over r ^s;", 3);
        Check.badLayout(ST + "track s t;signal g s down;route r g;over r t;over r ^s;", 3);
        // Round a ring: back to one that the route has, and to its signal's.
        String ring = "section a 1;section b 1;section c 1;section d 1;track a b;track b c;track c d;track d b;track c a;"
                + "signal g a down;route r g;over r b;over r c;";
        Check.badLayout(ring + "over r d;over r ^b;", 3);
        Check.badLayout(ring + "over r ^a;", 3);
        String both = ST + "section u 1;section v 1;points p t;track s t p normal;track t u p reverse;track t v p normal;"
                + "signal g s down;route r g;over r t;";
        Check.badLayout(both + "over r ^u;", 3);
        Check.due("the other one", Check.layout(new LeverFrame(), both + "over r v;"), 12);
        String two = line + "lock r ^r;";
        Check.badLayout(two, 3);
        Check.badLayout(line + "lock ^s r;", 3);
        Check.badLayout(line + "lock r ^x;", 3);
        Check.badLayout(line + "lock r q;lock r ^q;", 3);
        Check.badLayout(line + "lock r q;lock q ^r;", 3);
    }

    private static void faultsOfTooMany() {
        Check.part("faults 4 of layouts");
        String twelve = Check.times(12, "section s# 1;");
        Check.due("twelve sections", Check.layout(new LeverFrame(), twelve), 12);
        Check.badLayout(twelve + "^section x 1;", 4);
        Check.badLayout(twelve + "^section sa 1;", 4);
        Check.badLayout(S + Check.times(6, "points p# s;") + "^points x s;", 4);
        String six = ST + "section u 1;section v 1;section w 1;section x 1;section y 1;";
        String tracks = "";
        int made = 0;
        String names = "stuvwxy";
        for (int i = 0; i < 7 && made < 16; i++) {
            for (int j = i + 1; j < 7 && made < 16; j++) {
                tracks += "track " + names.charAt(i) + " " + names.charAt(j) + ";";
                made++;
            }
        }
        Check.due("sixteen tracks", Check.layout(new LeverFrame(), six + tracks), 23);
        Check.badLayout(six + tracks + "^track x y;", 4);
        String eight = "";
        for (char c : "stuv".toCharArray()) {
            eight += "signal g" + c + " " + c + " down;signal h" + c + " " + c + " up;";
        }
        Check.badLayout(six + eight + "^signal x w up;", 4);
        String ten = S + "signal g s down;" + Check.times(10, "route r# g;");
        Check.due("ten routes", Check.layout(new LeverFrame(), ten), 12);
        Check.badLayout(ten + "^route x g;", 4);
        String row = Check.times(8, "section s# 1;");
        for (int i = 0; i < 7; i++) {
            row += "track s" + (char) ('a' + i) + " s" + (char) ('b' + i) + ";";
        }
        row += "signal g sa down;route r g;over r sb;over r sc;over r sd;over r se;over r sf;over r sg;";
        Check.due("six overs", Check.layout(new LeverFrame(), row), 23);
        Check.badLayout(row + "over ^r sh;", 4);
        Check.badLayout(row + "over ^r zz;", 4);
        String five = twelve;
        for (char c = 'a'; c < 'f'; c++) {
            five += "train t" + c + " s" + c + " up;";
        }
        Check.due("five trains", Check.layout(new LeverFrame(), five), 17);
        Check.badLayout(five + "^train x sf up;", 4);
    }

    private static void tooManyBytes() {
        Check.part("the most bytes");
        Check.due("1400 bytes", Check.layout(new LeverFrame(), S + Check.blanks(1388)), 1);
        Check.badLayout(S + Check.blanks(1388) + "^ ", 1);
        Check.badLayout(Check.blanks(1400) + "^x", 1);
        Check.badLayout(Check.blanks(1399) + "^x", 1);
        // Tokens that begin ahead of the 1400th byte are read whole.
        Check.badLayout(Check.blanks(1394) + "hold ^31;", 2);
        Check.badLayout(Check.blanks(1395) + "hold ^31;", 1);
        Check.badLayout(Check.blanks(1394) + "hold 3^0;", 1);
        Check.badLayout(Check.blanks(1393) + "section^ s 1;", 1);
        Check.badLayout(Check.blanks(1397) + "^sections 1;", 1);
        Check.badLayout(Check.blanks(1397) + "hol^d 1;", 1);
        Check.badLayout("section s ^0;" + Check.blanks(1440), 2);
        LeverFrame x = new LeverFrame();
        Check.badBook(x, Check.blanks(400) + "^ ", 1);
        Check.due("400 bytes", Check.book(x, Check.blanks(393) + "tick 1;", 0), -1);
        Check.badBook(x, Check.blanks(394) + "tick 1^;", 1);
        Check.badSentence(x, "out" + Check.blanks(197) + "^ ", 1);
        Check.due("200 bytes", Check.sentence(x, "out" + Check.blanks(197)), 1);
        Check.badSentence(x, Check.blanks(199) + "o^ut", 1);
    }

    private static void latestFault() {
        Check.part("promise 5");
        LeverFrame x = new LeverFrame();
        Check.due("ahead of any", x.fault(), 0);
        Check.layout(x, "hold 99;");
        Check.due("of a layout", x.fault(), 2);
        Check.tape(x, "tick 61;");
        Check.due("another lives", x.book(2), -1000);
        Check.due("it stays", x.fault(), 2);
        Check.due("the tape, too", x.count(8), 8);
        x.end(0);
        Check.due("no fault", x.book(0), -1);
        Check.due("of no fault", x.fault(), 0);
        Check.sentence(x, "in nowhere");
        Check.due("of a sentence", x.fault(), 3);
        x.feed(0, 0, 0, 0, 0);
        x.fits();
        x.set(0);
        Check.due("others leave it", x.fault(), 3);
        Check.layout(x, "");
        Check.due("of a good layout", x.fault(), 0);
        Check.book(x, "tick 0;", 0);
        Check.due("of a book", x.fault(), 2);
        Check.sentence(x, "out");
        Check.due("of a good sentence", x.fault(), 0);
    }

    private static void faultsOfBooks() {
        Check.part("faults of books");
        LeverFrame x = Check.laid(Check.JUNCTION);
        Check.badBook(x, "^;", 1);
        Check.badBook(x, "^rm;", 1);
        Check.badBook(x, "^section s 1;", 1);
        Check.badBook(x, "set^", 1);
        Check.badBook(x, "set ^;", 1);
        Check.badBook(x, "set ^set;", 1);
        Check.badBook(x, "set rm ^rb;", 1);
        Check.badBook(x, "set rm^", 1);
        Check.badBook(x, "set ^zz;", 3);
        Check.badBook(x, "set ^p;", 3);
        Check.badBook(x, "back ^ws;", 3);
        Check.badBook(x, "throw ^j;", 3);
        Check.badBook(x, "fail ^rm full;", 3);
        Check.badBook(x, "fail j ^;", 1);
        Check.badBook(x, "fail j ^normal;", 1);
        Check.badBook(x, "mend ^ann;", 3);
        Check.badBook(x, "tick ^0;", 2);
        Check.badBook(x, "tick ^61;", 2);
        Check.badBook(x, "tick ^w;", 1);
        Check.badBook(x, "tick 1;tick 1;throw ^w;", 3);
        Check.due("a faulty book is not lived", x.now(0), 0);
        Check.due("forty lines", Check.book(x, Check.times(40, "tick 1;"), 0), -1);
        Check.badBook(x, Check.times(40, "tick 1;") + "^tick 1;", 4);
        Check.badBook(x, Check.times(40, "tick 1;") + "^set 1;", 4);
        Check.badBook(x, Check.times(40, "tick 1;") + "^up 1;", 1);
        Check.due("books with all", Check.book(x, "throw p;throw p;set rm;back rm;fail m clear;fail m full;mend m;tick 60;", 0), -1);
    }

    private static void faultsOfSentences() {
        Check.part("faults of sentences");
        LeverFrame x = Check.laid(Check.JUNCTION);
        Check.badSentence(x, "^", 1);
        Check.badSentence(x, "  ^", 1);
        Check.badSentence(x, "^and", 1);
        Check.badSentence(x, "^w", 1);
        Check.badSentence(x, "out ^out", 1);
        Check.badSentence(x, "out ^;", 1);
        Check.badSentence(x, "out or^", 1);
        Check.badSentence(x, "out and ^or out", 1);
        Check.badSentence(x, "not^", 1);
        Check.badSentence(x, "(out^", 1);
        Check.badSentence(x, "(^)", 1);
        Check.badSentence(x, "out ^)", 1);
        Check.badSentence(x, "in ^out", 1);
        Check.badSentence(x, "in ^rm", 3);
        Check.badSentence(x, "in ^zz", 3);
        Check.badSentence(x, "using ^w", 3);
        Check.badSentence(x, "using^", 1);
        Check.badSentence(x, "ticks ^3", 1);
        Check.badSentence(x, "ticks < ^w", 1);
        Check.badSentence(x, "ticks ^( 3", 1);
        Check.badSentence(x, "number = ^1000", 1);
        Check.due("any number", Check.sentence(x, "number=999 or waited<0 or ticks>000"), 3);
        String twenty = "out" + Check.times(19, " or out");
        Check.due("twenty", Check.sentence(x, twenty), 20);
        Check.badSentence(x, twenty + " and ^not out", 4);
        Check.badSentence(x, twenty + " and ^w", 1);
        Check.due("eight within", Check.sentence(x, "not not not not not not not out"), 8);
        Check.badSentence(x, "not not not not not not not not ^out", 4);
        Check.badSentence(x, "not not not not not not not not ^in rm", 4);
        Check.badSentence(x, "not not not not not not not not ^w", 1);
        Check.badSentence(x, "((((((((^out))))))))", 4);
        Check.due("brackets within", Check.sentence(x, "(((((((out)))))))"), 8);
        Check.due("beside is not within", Check.sentence(x, "(((((((out)))))))and(((((((out)))))))"), 16);
        Check.badSentence(x, "((((((not not ^not out))))))", 4);
    }
}
