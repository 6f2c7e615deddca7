/**
 * The edges of texts: for each sentence about tokens, layouts, books, sentences and faults, and of
 * promises 1 to 5, the last that is taken and the first that is refused.
 */
public final class EdgeTextTest {
    private static final String S = "section s 1;";
    private static final String ST = "section s 1;section t 1;";
    private static final String STU = "section s 1;section t 1;section u 1;";
    private static final String[] WORDS = ("section points track signal route over lock train hold normal reverse down up "
            + "set back throw fail clear full mend tick or and not out crashed waiting in using ticks waited number").split(" ");

    private EdgeTextTest() {
    }

    public static void main(String[] args) {
        lettersOfWords();
        digitsOfNumbers();
        blanksBetween();
        wordsGoOn();
        bytesOfLayout();
        tokensReadWhole();
        linesOfLayout();
        longOfSections();
        pointsOfTracks();
        tracksAsTold();
        signalsBothWays();
        oversNextOnes();
        oversAgain();
        oversByPoints();
        locksOnce();
        trainsApart();
        holdOnce();
        numberedLiesAndWays();
        namesThatAreWords();
        namesToldOnce();
        namesOfAnotherSort();
        mostSections();
        mostPoints();
        mostTracks();
        mostSignals();
        mostRoutes();
        mostOvers();
        mostTrains();
        mostOfAll();
        bytesOfBook();
        linesOfBook();
        ticksOfBook();
        sidesOfBook();
        namesOfBook();
        bytesOfSentence();
        onesOfSentence();
        onesWithin();
        numbersOfSentence();
        signsOfSentence();
        nothingSaid();
        firstFaultAlong();
        leastFaultOfToken();
        faultAtTheEnd();
        faultAtTheMost();
        newObject();
        feedTheLast();
        feedTheHighestFirst();
        endOfTape();
        layoutStays();
        layoutIsNew();
        layoutLeaves();
        tapeIsEmpty();
        faultOfTheLatest();
        Check.finish("EdgeTextTest");
    }

    private static void taken(String text, int lines) {
        LeverFrame x = new LeverFrame();
        Check.due("layout \"" + text + "\"", Check.layout(x, text), lines);
        Check.due("fault of \"" + text + "\"", x.fault(), 0);
    }

    private static void lettersOfWords() {
        Check.part("WORDS: small letters, 1 to 7");
        taken("section a 1;section z 1;", 2);
        taken("section abcdefg 1;section zzzzzzz 1;", 2);
        Check.badLayout("section ^abcdefgh 1;", 1);
        Check.badLayout("section ^zzzzzzzz 1;", 1);
        Check.badLayout("section ^" + Check.times(100, "a") + " 1;", 1);
        Check.badLayout("section ^" + (char) ('a' - 1) + " 1;", 1);
        Check.badLayout("section ^" + (char) ('z' + 1) + " 1;", 1);
        Check.badLayout("section a^" + (char) ('a' - 1) + " 1;", 1);
        Check.badLayout("section ^A 1;", 1);
        Check.badLayout("section ^" + (char) ('a' + 128) + " 1;", 1);
        // One letter more or less is another name.
        taken("section a 1;section aa 1;section aaa 1;section aaaaaaa 1;section aaaaaa 1;", 5);
    }

    private static void digitsOfNumbers() {
        Check.part("NUMBERS: 1 to 3 digits");
        taken("hold 9;", 1);
        taken("hold 09;", 1);
        taken("hold 009;", 1);
        Check.badLayout("hold ^0009;", 1);
        Check.badLayout("hold ^" + Check.times(100, "0") + "9;", 1);
        // It would be 9 if it were an int that wraps.
        Check.badLayout("hold ^4294967305;", 1);
        Check.badLayout("hold ^999;", 2);
        Check.badLayout("hold ^1000;", 1);
        Check.badLayout("hold ^" + (char) ('0' - 1) + ";", 1);
        Check.badLayout("hold ^" + (char) ('9' + 1) + ";", 1);
        Check.badLayout("hold 1^" + (char) ('9' + 1) + ";", 1);
        Check.badLayout("hold ^;", 1);
    }

    private static void blanksBetween() {
        Check.part("blanks (32, 10) between them or not");
        taken("hold 4;section a 1;", 2);
        taken(" \n hold\n4 ;\n\nsection \n a  1\n; \n", 2);
        for (int c = 0; c < 256; c++) {
            if (c != 32 && c != 10) {
                boolean goesOn = c >= 'a' && c <= 'z' || c >= '0' && c <= '9';
                Check.badLayout(goesOn ? "^hold" + (char) c + "4;" : "hold^" + (char) c + "4;", 1);
            }
        }
    }

    private static void wordsGoOn() {
        Check.part("A WORD, NUMBER goes on as long as small letters and digits do");
        Check.badLayout("^hold4;", 1);
        Check.badLayout("^4hold;", 1);
        Check.badLayout("section ^a1;", 1);
        Check.badLayout("section a ^1a;", 1);
        Check.badLayout("hold ^1a;", 1);
        Check.badLayout("section ^abcd123 1;", 1);
        LeverFrame x = Check.laid(Check.JUNCTION);
        Check.badBook(x, "^tick1;", 1);
        Check.badBook(x, "tick ^1s;", 1);
        Check.badSentence(x, "number=^1or out", 1);
        Check.badSentence(x, "^notout", 1);
        Check.due("signs part them", Check.sentence(x, "not(out)or(number<1)and(waited=0)"), 7);
    }

    private static void bytesOfLayout() {
        Check.part("A LAYOUT is a text of at most 1400 bytes");
        taken(S + Check.blanks(1388), 1);
        taken(Check.blanks(1388) + S, 1);
        taken(Check.blanks(1400), 0);
        Check.badLayout(S + Check.blanks(1388) + "^ ", 1);
        Check.badLayout(S + Check.blanks(1388) + "^;", 1);
        Check.badLayout(Check.blanks(1400) + "^ ", 1);
        Check.badLayout(Check.blanks(1389) + "section s 1^;", 1);
        Check.badLayout(S + Check.blanks(1388) + "^" + Check.blanks(60), 1);
        Check.badLayout(S + Check.blanks(1388) + "^hold 0;", 1);
    }

    private static void tokensReadWhole() {
        Check.part("TOKENS that begin ahead of it are read whole");
        // The WORD begins at 1399 and is a good one; what must follow it can't come.
        Check.badLayout(Check.blanks(1399) + "h^old 4;", 1);
        // The same place, but no word that may come: the fault is at it.
        Check.badLayout(Check.blanks(1399) + "^holds 4;", 1);
        Check.badLayout(Check.blanks(1399) + "^abcdefgh;", 1);
        // A NUMBER of which two digits lie behind: 300 is read, not 3.
        Check.badLayout(Check.blanks(1394) + "hold ^300;", 2);
        Check.badLayout(Check.blanks(1394) + "hold ^3000;", 1);
        Check.badLayout(Check.blanks(1394) + "hold 0^30;", 1);
        // A NAME of which one letter lies behind: it is that name, not another.
        String two = "section s 1;section sa 1;";
        Check.badLayout(two + Check.blanks(1400 - two.length() - 10) + "section ^sa 1;", 3);
        Check.badLayout(two + Check.blanks(1400 - two.length() - 9) + "section ^sa 1;", 3);
        Check.badLayout(two + Check.blanks(1400 - two.length() - 9) + "section s^t 1;", 1);
        Check.badLayout(two + Check.blanks(1400 - two.length() - 8) + "section ^sa 1;", 1);
        // So in books and sentences.
        LeverFrame x = Check.laid(Check.JUNCTION);
        Check.badBook(x, Check.blanks(394) + "tick ^610;", 2);
        Check.badBook(x, Check.blanks(395) + "tick ^610;", 1);
        Check.badBook(x, Check.blanks(395) + "set ^rz;", 3);
        Check.badBook(x, Check.blanks(395) + "set r^m;", 1);
        Check.badSentence(x, Check.blanks(199) + "^outs", 1);
        Check.badSentence(x, Check.blanks(197) + "in ^w", 1);
        Check.badSentence(x, Check.blanks(196) + "in ^zz", 3);
        Check.badSentence(x, Check.blanks(191) + "number =9^99", 1);
    }

    private static void linesOfLayout() {
        Check.part("{ LINE ; }");
        taken("", 0);
        taken("\n", 0);
        taken("hold 1;", 1);
        Check.badLayout("^;", 1);
        Check.badLayout("hold 1;^;", 1);
        Check.badLayout("hold 1^", 1);
        Check.badLayout("hold 1 ^section a 1;", 1);
        // As many lines as ten routes, 45 pairs of them and the rest make.
        StringBuilder text = new StringBuilder(S + "signal g s down;" + Check.times(10, "route r# g;"));
        for (char a = 'a'; a < 'k'; a++) {
            for (char b = 'a'; b < a; b++) {
                text.append("lock r").append(a).append(" r").append(b).append(";");
            }
        }
        LeverFrame x = Check.laid("hold 2;");
        Check.due("lines", Check.layout(x, text.toString()), 57);
        Check.due("pairs", x.count(5), 45);
        Check.due("all of the last", x.route(9, 3), 511);
        Check.due("all of the first", x.route(0, 3), 1022);
        Check.badLayout(text + "lock rj ^ra;", 3);
        Check.badLayout(text + "lock ra ^rj;", 3);
    }

    private static void longOfSections() {
        Check.part("LONG (1 to 30 TICKS)");
        taken("section s 1;", 1);
        taken("section s 30;", 1);
        Check.badLayout("section s ^0;", 2);
        Check.badLayout("section s ^00;", 2);
        Check.badLayout("section s ^31;", 2);
        Check.badLayout("section s ^031;", 2);
        LeverFrame x = Check.laid("section s 001;section t 030;");
        Check.due("least", x.section(0, 0), 1);
        Check.due("most", x.section(1, 0), 30);
    }

    private static void pointsOfTracks() {
        Check.part("POINTS of a TRACK that lie in neither (at them)");
        taken(STU + "points p s;track s t p normal;", 5);
        taken(STU + "points p t;track s t p normal;", 5);
        Check.badLayout(STU + "points p u;track s t ^p normal;", 3);
        Check.badLayout(STU + "points p u;track s u p normal;track s t ^p normal;", 3);
        Check.badLayout(STU + "points p s;track s t ^q normal;", 3);
        Check.badLayout(STU + "points p s;track s t p^;", 1);
        Check.badLayout(STU + "points p s;track s t ^reverse;", 1);
        Check.badLayout(STU + "points p s;track s t p ^down;", 1);
        Check.badLayout(STU + "points p s;track s t p normal ^p;", 1);
    }

    private static void tracksAsTold() {
        Check.part("several with the same POINTS are as told, alike lies, too");
        taken(STU + "points p s;track s t p normal;track s u p normal;track u t;", 7);
        taken(STU + "points p s;track s t p normal;track s u p reverse;", 6);
        Check.part("two SECTIONS of a TRACK that are alike or have one, whichever way (at the second)");
        Check.badLayout(STU + "track s ^s;", 3);
        Check.badLayout(STU + "track s t;track s ^t;", 3);
        Check.badLayout(STU + "track s t;track t ^s;", 3);
        taken(STU + "track s t;track t u;track u s;", 6);
        Check.badLayout(STU + "track s t;track t u;track u s;track s ^u;", 3);
        Check.badLayout(STU + "track ^x t;", 3);
        Check.badLayout(STU + "track s ^x;", 3);
    }

    private static void signalsBothWays() {
        Check.part("a SIGNAL where there is one for that WAY (at the WAY)");
        taken(ST + "signal g s down;signal h s up;signal i t down;signal j t up;", 6);
        Check.badLayout(ST + "signal g s down;signal h s ^down;", 3);
        Check.badLayout(ST + "signal g s up;signal h s ^up;", 3);
        Check.badLayout(ST + "signal g s down;signal h s up;signal i s ^up;", 3);
        Check.badLayout(ST + "signal g s down;signal h s ^;", 1);
    }

    private static void oversNextOnes() {
        Check.part("'over': a TRACK leads there, the WAY of its SIGNAL, from the one ahead, first from that of its SIGNAL");
        String row = STU + "track s t;track t u;";
        String down = row + "signal g s down;route r g;";
        String up = row + "signal g u up;route r g;";
        taken(down + "over r t;over r u;", 9);
        taken(up + "over r t;over r s;", 9);
        Check.badLayout(down + "over r ^u;", 3);
        Check.badLayout(up + "over r ^s;", 3);
        Check.badLayout(row + "signal g s up;route r g;over r ^t;", 3);
        Check.badLayout(row + "signal g u down;route r g;over r ^t;", 3);
        Check.badLayout(row + "signal g t down;route r g;over r ^s;", 3);
        Check.badLayout(STU + "signal g s down;route r g;over r ^t;track s t;", 3);
        // A track told behind the route but ahead of its 'over' is there in time.
        taken(STU + "signal g s down;route r g;track s t;over r t;", 7);
        Check.badLayout(down + "over ^q t;", 3);
        Check.badLayout(down + "over ^g t;", 3);
        Check.badLayout(down + "over r ^r;", 3);
        Check.badLayout(down + "over r ^x;", 3);
        Check.badLayout(down + "over r ^up;", 1);
        Check.badLayout(down + "over r ^;", 1);
        Check.badLayout(down + "over r ^1;", 1);
        Check.badLayout(down + "over r^", 1);
    }

    private static void oversAgain() {
        Check.part("a SECTION that the ROUTE has, that is its SIGNAL's (at it)");
        String ring = STU + "track s t;track t u;track u s;signal g s down;route r g;signal h t down;route q h;";
        taken(ring + "over r t;over r u;over q u;over q s;", 14);
        Check.badLayout(ring + "over r t;over r u;over r ^s;", 3);
        Check.badLayout(ring + "over q u;over q s;over q ^t;", 3);
        Check.badLayout(ring + "over r ^s;", 3);
        String bow = STU + "section v 1;track s t;track t u;track u v;track v t;signal g s down;route r g;";
        taken(bow + "over r t;over r u;over r v;", 13);
        Check.badLayout(bow + "over r t;over r u;over r v;over r ^t;", 3);
        Check.badLayout(bow + "over r t;over r ^t;", 3);
    }

    private static void oversByPoints() {
        Check.part("a SECTION by which it would NEED POINTS both ways (at it)");
        String fork = STU + "section v 1;points p t;points q t;";
        String end = "signal g s down;route r g;over r t;";
        taken(fork + "track s t p normal;track t u p normal;" + end + "over r u;", 12);
        taken(fork + "track s t p reverse;track t u p reverse;" + end + "over r u;", 12);
        taken(fork + "track s t p normal;track t u q reverse;" + end + "over r u;", 12);
        Check.badLayout(fork + "track s t p normal;track t u p reverse;" + end + "over r ^u;", 3);
        Check.badLayout(fork + "track s t p reverse;track t u p normal;" + end + "over r ^u;", 3);
        Check.badLayout(fork + "track s t q normal;track t u q reverse;" + end + "over r ^u;", 3);
        Check.badLayout(fork + "track s t q reverse;track t u q normal;" + end + "over r ^u;", 3);
        // The refused one is none of the route: another may be the next.
        taken(fork + "track s t p normal;track t u p reverse;track t v p normal;" + end + "over r v;", 13);
        // Needs of another route are no matter.
        taken(fork + "track s t;track t u p normal;track t v p reverse;" + end + "over r u;route k g;over k t;over k v;", 16);
    }

    private static void locksOnce() {
        Check.part("two ROUTES of a 'lock' that are alike or were told so, whichever first (at the second)");
        String three = S + "signal g s down;route a g;route b g;route c g;";
        taken(three + "lock a b;lock b c;lock c a;", 8);
        Check.badLayout(three + "lock a ^a;", 3);
        Check.badLayout(three + "lock a b;lock a ^b;", 3);
        Check.badLayout(three + "lock a b;lock b ^a;", 3);
        Check.badLayout(three + "lock a b;lock b c;lock c a;lock c ^b;", 3);
        Check.badLayout(three + "lock ^s b;", 3);
        Check.badLayout(three + "lock a ^s;", 3);
        Check.badLayout(three + "lock a ^;", 1);
    }

    private static void trainsApart() {
        Check.part("a TRAIN in a SECTION with one (at the SECTION)");
        taken(ST + "train a s down;train b t down;", 4);
        Check.badLayout(ST + "train a s down;train b ^s down;", 3);
        Check.badLayout(ST + "train a s down;train b ^s up;", 3);
        Check.badLayout(ST + "train a s down;train b t up;train c ^t;", 3);
        Check.badLayout(ST + "train a s down;train b t ^;", 1);
    }

    private static void holdOnce() {
        Check.part("'hold' N (1 to 30; once; 3 without)");
        LeverFrame x = new LeverFrame();
        Check.due("a new object's", x.count(7), 3);
        Check.layout(x, "hold 1;");
        Check.due("least", x.count(7), 1);
        Check.layout(x, "hold 30;");
        Check.due("most", x.count(7), 30);
        Check.layout(x, S);
        Check.due("without", x.count(7), 3);
        Check.badLayout("hold ^0;", 2);
        Check.badLayout("hold ^31;", 2);
        Check.part("'hold' told again (at the WORD)");
        Check.badLayout("hold 3;^hold 3;", 3);
        Check.badLayout("hold 3;^hold;", 3);
        Check.badLayout("hold 1;" + S + "^hold 99;", 3);
        // A faulty layout's hold was told to nobody.
        Check.layout(x, "hold 7;hold 8;");
        Check.due("stays", x.count(7), 3);
        Check.due("once, anew", Check.layout(x, "hold 8;"), 1);
        Check.due("eight", x.count(7), 8);
    }

    private static void numberedLiesAndWays() {
        Check.part("LIE: 'normal', 'reverse', numbered from 0; WAY: 'down', 'up' likewise");
        LeverFrame x = Check.laid(STU + "points p s;points q s;track s t p normal;track s u q reverse;"
                + "signal g s down;signal h t up;route r g;over r t;route k g;over k u;train a s down;train b t up;");
        Check.due("down", x.signal(0, 1), 0);
        Check.due("up", x.signal(1, 1), 1);
        Check.due("down", Check.train(x, 0, 1), 0);
        Check.due("up", Check.train(x, 1, 1), 1);
        Check.due("normal", x.route(0, 5), 1);
        Check.due("reverse", x.route(1, 6), 2);
        Check.due("at first", x.now(3), 0);
    }

    private static void namesThatAreWords() {
        Check.part("NAME: a WORD, none of those told here, in a BOOK or a SENTENCE");
        for (String word : WORDS) {
            Check.badLayout("section ^" + word + " 1;", 1);
            Check.badLayout(S + "points ^" + word + " s;", 1);
            Check.badLayout(S + "signal ^" + word + " s up;", 1);
            Check.badLayout(S + "signal g s up;route ^" + word + " g;", 1);
            Check.badLayout(S + "train ^" + word + " s up;", 1);
            // A letter less, or one more where seven are not reached, is a name unless it is a word.
            String less = word.substring(1);
            String more = word + "x";
            taken("section " + (isWord(less) || less.isEmpty() ? "q" : less) + " 1;", 1);
            taken("section " + (more.length() > 7 ? "q" : more) + " 1;", 1);
        }
        taken("section s 1;section none 1;section tape 1;section book 1;section free 1;section used 1;section lies 1;", 7);
    }

    private static boolean isWord(String text) {
        for (String word : WORDS) {
            if (word.equals(text)) {
                return true;
            }
        }
        return false;
    }

    private static void namesToldOnce() {
        Check.part("a NAME told twice");
        String all = S + "points p s;signal g s up;route r g;train t s up;";
        for (String name : new String[] {"s", "p", "g", "r", "t"}) {
            Check.badLayout(all + "section ^" + name + " 1;", 3);
            Check.badLayout(all + "points ^" + name + " s;", 3);
            Check.badLayout(all + "signal ^" + name + " s down;", 3);
            Check.badLayout(all + "route ^" + name + " g;", 3);
            Check.badLayout(all + "train ^" + name + " s down;", 3);
        }
        // Its line is not whole yet when its own name is told, so it is not there for itself.
        Check.badLayout("points p ^p;", 3);
        Check.badLayout("route r ^r;", 3);
        // What an older layout told, and what a refused one told, is free.
        LeverFrame x = Check.laid(all);
        Check.due("again", Check.layout(x, all), 5);
        Check.layout(x, "section a 1;section b 0;");
        Check.due("anew", Check.layout(x, "section b 1;section a 1;section s 1;"), 3);
    }

    private static void namesOfAnotherSort() {
        Check.part("a NAME not told, or of another sort");
        String all = ST + "points p s;signal g s up;route r g;train k s up;";
        for (String name : new String[] {"x", "p", "g", "r", "k"}) {
            Check.badLayout(all + "points q ^" + name + ";", 3);
            Check.badLayout(all + "track ^" + name + " t;", 3);
            Check.badLayout(all + "track s ^" + name + ";", 3);
            Check.badLayout(all + "signal h ^" + name + " down;", 3);
            Check.badLayout(all + "train m ^" + name + " down;", 3);
            Check.badLayout(all + "over r ^" + name + ";", 3);
        }
        for (String name : new String[] {"x", "s", "g", "r", "k"}) {
            Check.badLayout(all + "track s t ^" + name + " normal;", 3);
        }
        for (String name : new String[] {"x", "s", "p", "r", "k"}) {
            Check.badLayout(all + "route q ^" + name + ";", 3);
        }
        for (String name : new String[] {"x", "s", "p", "g", "k"}) {
            Check.badLayout(all + "over ^" + name + " t;", 3);
            Check.badLayout(all + "lock ^" + name + " r;", 3);
            Check.badLayout(all + "lock r ^" + name + ";", 3);
        }
    }

    private static void mostSections() {
        Check.part("12 SECTIONS");
        String most = Check.times(12, "section s# 1;");
        LeverFrame x = Check.laid(most);
        Check.due("all", x.count(0), 12);
        Check.due("the last", x.section(11, 0), 1);
        Check.due("no more", x.section(12, 0), -1);
        Check.badLayout(most + "^section x 1;", 4);
        Check.badLayout(most + "^section ;", 4);
        Check.badLayout(most + "hold 3;^section x 1;", 4);
    }

    private static void mostPoints() {
        Check.part("6 POINTS");
        String most = S + Check.times(6, "points p# s;");
        LeverFrame x = Check.laid(most);
        Check.due("all", x.count(1), 6);
        Check.due("all in s", x.section(0, 5), 63);
        Check.due("the last", x.points(5, 0), 0);
        Check.due("no more", x.points(6, 0), -1);
        Check.badLayout(most + "^points x s;", 4);
        Check.badLayout(most + "^points pa x;", 4);
    }

    private static void mostTracks() {
        Check.part("16 TRACKS");
        StringBuilder most = new StringBuilder(Check.times(12, "section s# 1;"));
        for (int i = 0; i < 16; i++) {
            int from = i % 12;
            int to = (i + 1 + i / 12) % 12;
            most.append("track s").append((char) ('a' + from)).append(" s").append((char) ('a' + to)).append(";");
        }
        LeverFrame x = Check.laid(most.toString());
        Check.due("all", x.count(2), 16);
        Check.badLayout(most + "^track sa sf;", 4);
        Check.badLayout(most + "^track sa sb;", 4);
        Check.badLayout(most + "^track sx;", 4);
        // The last one leads as the others do: it is d to f.
        LeverFrame y = Check.laid(most.toString().replace("track sd se;", "track se sd;") + "train t sd down;");
        y.ticks(1);
        Check.due("by the sixteenth", Check.train(y, 0, 0), 5);
    }

    private static void mostSignals() {
        Check.part("8 SIGNALS");
        String most = Check.times(5, "section s# 1;") + "signal ga sa down;signal gb sa up;signal gc sb down;signal gd sb up;"
                + "signal ge sc down;signal gf sc up;signal gg sd down;signal gh sd up;";
        LeverFrame x = Check.laid(most);
        Check.due("all", x.count(3), 8);
        Check.due("the last", x.signal(7, 0), 3);
        Check.due("no more", x.signal(8, 0), -1);
        Check.badLayout(most + "^signal x se down;", 4);
        Check.badLayout(most + "^signal x sa down;", 4);
    }

    private static void mostRoutes() {
        Check.part("10 ROUTES");
        String most = S + "signal g s down;" + Check.times(10, "route r# g;");
        LeverFrame x = Check.laid(most);
        Check.due("all", x.count(4), 10);
        Check.due("all of g", x.signal(0, 3), 1023);
        Check.due("the last", x.route(9, 0), 0);
        Check.due("no more", x.route(10, 0), -1);
        Check.badLayout(most + "^route x g;", 4);
        Check.badLayout(most + "^route ra x;", 4);
    }

    private static String rowOfOvers(int routes) {
        StringBuilder row = new StringBuilder(Check.times(9, "section s# 1;"));
        for (char c = 'a'; c < 'i'; c++) {
            row.append("track s").append(c).append(" s").append((char) (c + 1)).append(";");
        }
        row.append("signal g sa down;");
        for (int r = 0; r < routes; r++) {
            char name = (char) ('a' + r);
            row.append("route r").append(name).append(" g;");
            for (char c = 'b'; c < 'h'; c++) {
                row.append("over r").append(name).append(" s").append(c).append(";");
            }
        }
        return row.toString();
    }

    private static void mostOvers() {
        Check.part("6 'over' of each; an 'over': at the ROUTE");
        LeverFrame x = Check.laid(rowOfOvers(10));
        for (int r = 0; r < 10; r++) {
            Check.due("all", x.route(r, 2), 6);
            Check.due("the last", x.over(r, 5), 6);
            Check.due("no more", x.over(r, 6), -1);
        }
        Check.badLayout(rowOfOvers(1) + "over ^ra sh;", 4);
        Check.badLayout(rowOfOvers(2) + "over ^ra sh;", 4);
        Check.badLayout(rowOfOvers(2) + "over ^rb sh;", 4);
        Check.badLayout(rowOfOvers(1) + "over ^ra x;", 4);
        Check.badLayout(rowOfOvers(1) + "over ^ra;", 4);
        // Another route may go on where the first has its six.
        taken(rowOfOvers(1) + "signal h sg down;route q h;over q sh;over q si;", 29);
    }

    private static void mostTrains() {
        Check.part("5 TRAINS");
        StringBuilder most = new StringBuilder(Check.times(6, "section s# 1;"));
        for (char c = 'a'; c < 'f'; c++) {
            most.append("train t").append(c).append(" s").append(c).append(" up;");
        }
        LeverFrame x = Check.laid(most.toString());
        Check.due("all", x.count(6), 5);
        Check.due("the last", Check.train(x, 4, 0), 4);
        Check.due("no more", Check.train(x, 5, 0), Check.THROWS);
        Check.badLayout(most + "^train x sf up;", 4);
        Check.badLayout(most + "^train x sa up;", 4);
    }

    private static void mostOfAll() {
        Check.part("at most, numbered from 0 each");
        LeverFrame x = Check.laid(Check.FULL);
        int[] all = {12, 6, 16, 8, 10, 0, 5, 30, 0};
        for (int what = 0; what < all.length; what++) {
            Check.due("count " + what, x.count(what), all[what]);
        }
        Check.badLayout(Check.FULL + "^section xx 1;", 4);
        Check.badLayout(Check.FULL + "^points xx a;", 4);
        Check.badLayout(Check.FULL + "^track a f;", 4);
        Check.badLayout(Check.FULL + "^signal xx l down;", 4);
        Check.badLayout(Check.FULL + "^route xx s;", 4);
        Check.badLayout(Check.FULL + "over ^ri b;", 4);
        Check.badLayout(Check.FULL + "^train xx l down;", 4);
        Check.badLayout(Check.FULL + "^hold 30;", 3);
    }

    private static void bytesOfBook() {
        Check.part("A BOOK is a text of at most 400 bytes");
        LeverFrame x = Check.laid(Check.JUNCTION);
        Check.due("400", Check.book(x, "tick 1;" + Check.blanks(393), 0), -1);
        Check.due("lived", x.told(1), 1);
        Check.due("400 at its end", Check.book(x, Check.blanks(393) + "tick 1;", 0), -1);
        Check.due("lived", x.told(1), 1);
        Check.due("400 blanks", Check.book(x, Check.blanks(400), 1), -1);
        Check.badBook(x, "tick 1;" + Check.blanks(393) + "^ ", 1);
        Check.badBook(x, Check.blanks(394) + "tick 1^;", 1);
        Check.badBook(x, Check.blanks(400) + "^" + Check.blanks(1000), 1);
        Check.badBook(x, "tick ^0;" + Check.blanks(1000), 2);
        Check.due("nothing lived", x.now(0), 0);
    }

    private static void linesOfBook() {
        Check.part("{ LINE ; }, 40 at most; a 41st LINE of a BOOK (at the LINE's first WORD)");
        LeverFrame x = Check.laid(Check.JUNCTION);
        String forty = Check.times(40, "tick 2;");
        Check.due("none", Check.book(x, "", 1), -1);
        Check.due("forty", Check.book(x, forty, 0), -1);
        Check.due("all", x.told(1), 40);
        Check.due("the tick", x.told(2), 80);
        Check.badBook(x, forty + "^tick 2;", 4);
        Check.badBook(x, forty + " \n ^tick 0;", 4);
        Check.badBook(x, forty + "^mend", 4);
        Check.badBook(x, forty + "^;", 1);
        Check.badBook(x, forty + "^w;", 1);
        Check.badBook(x, Check.times(39, "tick 2;") + "tick ^0;tick 2;", 2);
        Check.badBook(x, Check.times(39, "tick 2;") + "tick 2^", 1);
    }

    private static void ticksOfBook() {
        Check.part("'tick' N (1 to 60)");
        LeverFrame x = Check.laid(Check.JUNCTION);
        Check.due("one", Check.book(x, "tick 1;", 1), -1);
        Check.due("sixty", Check.book(x, "tick 60;", 1), -1);
        Check.due("sixty-one in all", x.now(0), 61);
        Check.badBook(x, "tick ^0;", 2);
        Check.badBook(x, "tick ^61;", 2);
        Check.badBook(x, "tick ^999;", 2);
        Check.badBook(x, "tick ^1000;", 1);
        Check.badBook(x, "tick ^;", 1);
        Check.badBook(x, "tick 1 ^1;", 1);
    }

    private static void sidesOfBook() {
        Check.part("'fail' SECTION ( 'clear' | 'full' )");
        LeverFrame x = Check.laid(Check.JUNCTION);
        Check.due("both", Check.book(x, "fail m full;fail b clear;", 1), -1);
        Check.due("full", x.section(2, 3), 2);
        Check.due("clear", x.section(3, 3), 1);
        for (String word : WORDS) {
            if (!word.equals("clear") && !word.equals("full")) {
                Check.badBook(x, "fail w ^" + word + ";", 1);
            }
        }
        Check.badBook(x, "fail w^;", 1);
        Check.badBook(x, "fail w ^1;", 1);
        Check.badBook(x, "fail w ^j;", 1);
        Check.badBook(x, "mend w ^full;", 1);
    }

    private static void namesOfBook() {
        Check.part("ROUTE, POINTS, SECTION of a BOOK: a NAME not told, or of another sort");
        LeverFrame x = Check.laid(Check.JUNCTION);
        for (String name : new String[] {"x", "w", "p", "ws", "ann"}) {
            Check.badBook(x, "set ^" + name + ";", 3);
            Check.badBook(x, "back ^" + name + ";", 3);
        }
        for (String name : new String[] {"x", "w", "rm", "ws", "ann"}) {
            Check.badBook(x, "throw ^" + name + ";", 3);
        }
        for (String name : new String[] {"x", "p", "rm", "ws", "ann"}) {
            Check.badBook(x, "fail ^" + name + " full;", 3);
            Check.badBook(x, "mend ^" + name + ";", 3);
        }
        for (String word : WORDS) {
            LeverFrame y = Check.laid(Check.JUNCTION);
            Check.badBook(y, "set ^" + word + ";", 1);
            Check.badBook(y, "throw ^" + word + ";", 1);
            Check.badBook(y, "mend ^" + word + ";", 1);
            if (!" set back throw fail mend tick ".contains(" " + word + " ")) {
                Check.badBook(y, "^" + word + " rm;", 1);
            }
        }
    }

    private static void bytesOfSentence() {
        Check.part("A SENTENCE is a text of at most 200 bytes");
        LeverFrame x = Check.laid(Check.JUNCTION);
        Check.due("200", Check.sentence(x, "not out" + Check.blanks(193)), 2);
        Check.due("200", Check.sentence(x, Check.blanks(193) + "not out"), 2);
        Check.due("two trains", x.said(-1), 2);
        Check.badSentence(x, "out" + Check.blanks(197) + "^ ", 1);
        Check.badSentence(x, Check.blanks(194) + "not ou^t", 1);
        Check.badSentence(x, Check.blanks(200) + "^out", 1);
        Check.badSentence(x, Check.blanks(200) + "^", 1);
        Check.due("the older one stays", x.said(-1), 2);
    }

    private static void onesOfSentence() {
        Check.part("20 ONES; a 21st ONE (at its first TOKEN)");
        LeverFrame x = Check.laid(Check.JUNCTION);
        String twenty = "in w" + Check.times(19, " or in b");
        Check.due("twenty", Check.sentence(x, twenty), 20);
        Check.due("said of both", x.said(-1), 2);
        Check.badSentence(x, twenty + " or ^in b", 4);
        Check.badSentence(x, twenty + " or ^in zz", 4);
        Check.badSentence(x, twenty + " or ^(in b)", 4);
        Check.badSentence(x, twenty + " and ^not in b", 4);
        Check.badSentence(x, twenty + " and ^zz", 1);
        Check.badSentence(x, twenty + " or^", 1);
        String joined = "out" + Check.times(19, " and out");
        Check.due("twenty joined by 'and'", Check.sentence(x, joined), 20);
        Check.badSentence(x, joined + " and ^out", 4);
        Check.badSentence(x, joined + " or ^out", 4);
        // A 'not' and a bracket count, each: 19 and 'not' 'out' are one too many.
        String nineteen = "out" + Check.times(18, " or out");
        Check.badSentence(x, nineteen + " or not ^out", 4);
        Check.badSentence(x, nineteen + " or (^out)", 4);
        Check.due("nineteen and one", Check.sentence(x, nineteen + " and out"), 20);
        Check.due("brackets and all", Check.sentence(x, "(out)" + Check.times(9, "or(out)")), 20);
        Check.badSentence(x, "(out)" + Check.times(9, "or(out)") + "or^(out)", 4);
    }

    private static void onesWithin() {
        Check.part("8 within one another; a ninth within (at its first TOKEN)");
        LeverFrame x = Check.laid(Check.JUNCTION);
        Check.due("eight", Check.sentence(x, "not not not not not not not in w"), 8);
        Check.due("not seven times", x.said(-1), 1);
        Check.due("bob", x.said(0), 1);
        Check.due("eight", Check.sentence(x, "(((((((in w)))))))"), 8);
        Check.due("ann", x.said(0), 0);
        Check.due("eight", Check.sentence(x, "not(not(not(not in w)))"), 8);
        Check.badSentence(x, "not not not not not not not not ^in w", 4);
        Check.badSentence(x, "((((((((^in w))))))))", 4);
        Check.badSentence(x, "not(not(not(not(^in w))))", 4);
        Check.badSentence(x, "((((((((^(in w)))))))))", 4);
        Check.badSentence(x, "((((((((^)", 1);
        Check.badSentence(x, "((((((((^;", 1);
        Check.badSentence(x, "((((((((^", 1);
        // What stands beside is not within: the depth comes back behind a bracket and a 'not'.
        Check.due("beside", Check.sentence(x, "(((((((out)))))))and(((((((out)))))))or out"), 17);
        Check.due("beside", Check.sentence(x, "((((((not out or not out)and not out)))))"), 12);
        Check.badSentence(x, "((((((not out or not not ^out))))))", 4);
        Check.badSentence(x, "(((((((out)))))))or((((((((^out", 4);
    }

    private static void numbersOfSentence() {
        Check.part("( 'ticks' | 'waited' | 'number' ) SIGN NUMBER");
        LeverFrame x = Check.laid(Check.JUNCTION);
        for (String word : new String[] {"ticks", "waited", "number"}) {
            Check.due(word, Check.sentence(x, word + "<0"), 1);
            Check.due("below 0", x.said(-1), 0);
            Check.due(word, Check.sentence(x, word + "<999"), 1);
            Check.due("below 999", x.said(-1), 2);
            Check.due(word, Check.sentence(x, word + ">999"), 1);
            Check.due("above 999", x.said(-1), 0);
            Check.due(word, Check.sentence(x, word + "=000"), 1);
            Check.due("at 0", x.said(-1), word.equals("number") ? 1 : 2);
            Check.badSentence(x, word + "=^1000", 1);
            Check.badSentence(x, word + "=^", 1);
            Check.badSentence(x, word + "=^w", 1);
            Check.badSentence(x, word + "^", 1);
            Check.badSentence(x, word + " ^1", 1);
        }
    }

    private static void signsOfSentence() {
        Check.part("SIGN: < = >");
        for (char c = 33; c < 127; c++) {
            LeverFrame x = Check.laid(Check.JUNCTION);
            if (c == '<' || c == '=' || c == '>') {
                Check.due("sign " + c, Check.sentence(x, "number " + c + " 0"), 1);
            } else {
                Check.badSentence(x, "number ^" + c + " 0", 1);
            }
        }
        Check.badSentence(Check.laid(Check.JUNCTION), "number <^= 0", 1);
    }

    private static void nothingSaid() {
        Check.part("ALL { 'or' ALL }; ONE { 'and' ONE }; ( COND )");
        LeverFrame x = Check.laid(Check.JUNCTION);
        Check.badSentence(x, "^", 1);
        Check.badSentence(x, "\n\n^", 1);
        Check.badSentence(x, "(^)", 1);
        Check.badSentence(x, "not ^)", 1);
        Check.badSentence(x, "out ^in w", 1);
        Check.badSentence(x, "out and^", 1);
        Check.badSentence(x, "out or ^and out", 1);
        Check.badSentence(x, "^or out", 1);
        Check.badSentence(x, "(out^", 1);
        Check.badSentence(x, "(out ^;", 1);
        Check.badSentence(x, "(out)^)", 1);
        Check.badSentence(x, "out ^not", 1);
        for (String word : WORDS) {
            if (!" not out crashed waiting in using ticks waited number ".contains(" " + word + " ")) {
                Check.badSentence(x, "^" + word, 1);
            }
        }
        for (String name : new String[] {"x", "p", "rm", "ws", "ann"}) {
            Check.badSentence(x, "in ^" + name, 3);
        }
        for (String name : new String[] {"x", "p", "w", "ws", "ann"}) {
            Check.badSentence(x, "using ^" + name, 3);
        }
    }

    private static void firstFaultAlong() {
        Check.part("FAULTS, the first along the text");
        Check.badLayout("section s ^0;section s 0;", 2);
        Check.badLayout(S + "section ^s 0;.", 3);
        Check.badLayout("section ^up 0", 1);
        Check.badLayout(S + "train ^s x left", 3);
        Check.badLayout(S + "train t ^x left", 3);
        Check.badLayout(S + "train t s ^left", 1);
        Check.badLayout(Check.times(12, "section s# 1;") + "^section sa 0", 4);
        LeverFrame x = Check.laid(Check.JUNCTION);
        Check.badBook(x, "set ^zz;tick 0;.", 3);
        Check.badBook(x, "tick ^0;set zz;", 2);
        Check.badSentence(x, "in ^zz or or", 3);
        Check.badSentence(x, "out or ^or in zz", 1);
    }

    private static void leastFaultOfToken() {
        Check.part("of one TOKEN the least");
        // The 41st line's and the 21st ONE's first token that can't come is 1, not 4.
        LeverFrame x = Check.laid(Check.JUNCTION);
        Check.badBook(x, Check.times(40, "tick 1;") + "^rm;", 1);
        Check.badSentence(x, "out" + Check.times(19, " or out") + " or ^or", 1);
        // A word where a name is due can't come, though it is no name that was told, too.
        Check.badLayout("points p ^up;", 1);
        Check.badLayout("track ^section s;", 1);
        Check.badBook(x, "set ^set;", 1);
        Check.badSentence(x, "in ^in", 1);
        // A number of four digits is no token, though it is not as told, too.
        Check.badLayout("section s ^0000;", 1);
        // Points that are not told and lie in neither: 3 both; a section that is alike and not told.
        Check.badLayout(ST + "track s t ^zz normal;", 3);
    }

    private static void faultAtTheEnd() {
        Check.part("the end: how many bytes there are");
        Check.badLayout("section^", 1);
        Check.badLayout("section \n ^", 1);
        Check.badLayout("section s^", 1);
        Check.badLayout("section s 1^", 1);
        Check.badLayout("section s 1" + Check.blanks(20) + "^", 1);
        Check.badLayout("section s 1" + Check.blanks(1389) + "^", 1);
        LeverFrame x = Check.laid(Check.JUNCTION);
        Check.badBook(x, "set^", 1);
        Check.badBook(x, "fail w^", 1);
        Check.badBook(x, "fail w full \n^", 1);
        Check.badBook(x, "tick 1" + Check.blanks(394) + "^", 1);
        Check.badSentence(x, "not^", 1);
        Check.badSentence(x, "(out \n^", 1);
        Check.badSentence(x, "(out" + Check.blanks(196) + "^", 1);
    }

    private static void faultAtTheMost() {
        Check.part("the most bytes told, if there are more and no FAULT is ahead");
        Check.badLayout("section s 1" + Check.blanks(1389) + "^ ;", 1);
        Check.badLayout("section s 1" + Check.blanks(1389) + "^" + Check.blanks(60), 1);
        Check.badLayout("section s ^31;" + Check.blanks(1440), 2);
        Check.badLayout(Check.blanks(1399) + "^.", 1);
        Check.badLayout(Check.blanks(1399) + "^. ", 1);
        Check.badLayout(Check.blanks(1400) + "^.", 1);
        LeverFrame x = Check.laid(Check.JUNCTION);
        Check.badBook(x, Check.blanks(399) + "^. ", 1);
        Check.badBook(x, Check.blanks(400) + "^. ", 1);
        Check.badSentence(x, "out" + Check.blanks(196) + "^. ", 1);
        Check.badSentence(x, "out" + Check.blanks(197) + "^. ", 1);
    }

    private static void newObject() {
        Check.part("promise 1: A LAYOUT without SECTIONS; an empty tape");
        LeverFrame x = new LeverFrame();
        for (int what = 0; what <= 9; what++) {
            Check.due("count " + what, x.count(what), what == 7 ? 3 : what == 9 ? -1 : 0);
        }
        for (int what = 0; what <= 7; what++) {
            Check.due("now " + what, x.now(what), what == 7 ? -1 : 0);
        }
        Check.due("no bytes", x.end(1), false);
        Check.due("no bytes", x.end(0), true);
        Check.due("ticks go by all the same", x.ticks(1), 1);
        Check.due("tick", x.now(0), 1);
        // Two objects have nothing of one another.
        LeverFrame y = new LeverFrame();
        Check.due("a tick of its own", y.now(0), 0);
        Check.layout(y, S);
        Check.due("a layout of its own", x.count(0), 0);
    }

    private static void feedTheLast() {
        Check.part("promise 2: NONE, and none come, if it would have more than 1460");
        LeverFrame x = new LeverFrame();
        for (int i = 1; i <= 73; i++) {
            Check.due("feed", x.feed(0, 0, 0, 0, 0), 20 * i);
        }
        Check.due("one more", x.feed(1, 1, 1, 1, 1), -1);
        Check.due("bytes", x.count(8), 1460);
        for (int at = 1459; at > 1440; at--) {
            Check.due("cut", x.end(at), true);
            Check.due("twenty are too many", x.feed(1, 1, 1, 1, 1), -1);
            Check.due("none came", x.count(8), at);
        }
        Check.due("cut", x.end(1440), true);
        Check.due("the last", x.feed(1, 1, 1, 1, 1), 1460);
        Check.due("no more", x.end(1461), false);
    }

    private static void feedTheHighestFirst() {
        Check.part("promise 2: Twenty bytes come behind the tape, of each number the highest first");
        LeverFrame x = Check.laid(Check.times(12, "section s# 1;"));
        // As bytes: 0 0 1 0 2 0 3 0 4 0 5 0: six that show clear.
        x.feed(0x00000100, 0x02000300, 0x04000500, -1, -1);
        x.end(12);
        Check.due("all fit but those that fail full", x.fits(), 19);
        x.feed(0x0b000000, 0, 0, 0, 0);
        x.end(2);
        Check.due("the highest is first", x.fits(), 24);
        x.feed(0x80000000, 0, 0, 0, 0);
        x.end(2);
        Check.due("a high bit is no sign", x.fits(), -1);
        x.feed(0x00ff0000, 0, 0, 0, 0);
        x.end(2);
        Check.due("255 is neither 0 nor 1", x.fits(), -1);
        // Behind the tape: twelve bytes stay, twenty come.
        Check.tape(x, "hold 1;hold ");
        Check.due("behind", x.feed(0x323b2020, 0x20202020, 0x20202020, 0x20202020, 0x20202020), 32);
        Check.due("second hold", x.layout(), -8);
    }

    private static void endOfTape() {
        Check.part("promise 3: true; false, if it has not so many, or n is below 0");
        LeverFrame x = new LeverFrame();
        Check.due("0 of 0", x.end(0), true);
        Check.due("1 of 0", x.end(1), false);
        x.feed(0x686f6c64, 0x20373b68, 0, 0, 0);
        for (int no : new int[] {-1, -20, Integer.MIN_VALUE, 21, 1460, Integer.MAX_VALUE}) {
            Check.due("end " + no, x.end(no), false);
            Check.due("all stay", x.count(8), 20);
        }
        Check.due("all", x.end(20), true);
        Check.due("the first seven", x.end(7), true);
        Check.due("not more again", x.end(8), false);
        Check.due("'hold 7;'", x.layout(), 1);
        Check.due("seven", x.count(7), 7);
        x.feed(0, 0, 0, 0, 0);
        Check.due("none", x.end(0), true);
        Check.due("empty", x.count(8), 0);
        Check.due("a layout of nothing", x.layout(), 0);
    }

    private static void layoutStays() {
        Check.part("promise 4: -1 less the place of a FAULT: it stays");
        LeverFrame x = Check.laid(Check.JUNCTION);
        x.fail(1, 0);
        x.set(0);
        x.ticks(2);
        Check.sentence(x, "using rm");
        Check.due("at place 0", Check.layout(x, "."), -1);
        Check.due("at place 1", Check.layout(x, " ."), -2);
        Check.due("at the last place", Check.layout(x, Check.blanks(1459) + "."), -1401);
        Check.due("a fault behind much", Check.layout(x, "section a 1;hold 9;train t a down;hold 9;"), -35);
        Check.due("sections", x.count(0), 4);
        Check.due("hold", x.count(7), 2);
        Check.due("tick", x.now(0), 2);
        Check.due("fails", x.section(1, 3), 1);
        Check.due("rm is used", x.route(0, 1), 2);
        Check.due("the sentence", x.said(0), 0);
        Check.due("names", Check.book(x, "mend j;tick 1;", 1), -1);
        Check.dueText("names", Check.tag(x, 0), "ann in m");
        Check.due("all can be undone", x.undo(), 3);
    }

    private static void layoutIsNew() {
        Check.part("A new LAYOUT: TICK 0, all ROUTES FREE, nothing FAILS, TRAINS for 0 TICKS where they are told, no SENTENCE");
        LeverFrame x = Check.laid(Check.JUNCTION);
        Check.sentence(x, "not out");
        x.fail(0, 0);
        x.fail(2, 1);
        x.mend(2);
        x.fail(3, 1);
        x.set(0);
        x.ticks(3);
        x.turn(0);
        Check.due("much is so", x.now(2), 1);
        Check.layout(x, Check.JUNCTION);
        for (int what = 0; what < 7; what++) {
            Check.due("now " + what, x.now(what), what == 1 ? 9 : 0);
        }
        for (int s = 0; s < 4; s++) {
            Check.due("fails", x.section(s, 3), 0);
        }
        for (int r = 0; r < 4; r++) {
            Check.due("free", x.route(r, 1), 0);
            Check.due("held for", x.route(r, 7), 0);
            Check.due("used by", x.route(r, 8), -1);
        }
        for (int t = 0; t < 2; t++) {
            Check.due("where", Check.train(x, t, 0), 3 * t);
            for (int what = 2; what < 7; what++) {
                Check.due("train " + what, Check.train(x, t, what), 0);
            }
        }
        Check.due("no sentence", x.said(-1), -1);
        Check.due("nothing to be undone", x.undo(), -1);
        Check.due("the same layout of none", Check.layout(x, ""), 0);
        Check.due("no trains", Check.train(x, 0, 0), Check.THROWS);
        Check.due("nothing shows", x.now(1), 0);
        // Points that lay reverse lie normal.
        Check.layout(x, "section a 1;points p a;");
        x.turn(0);
        Check.layout(x, "section a 1;points p a;");
        Check.due("normal at first", x.points(0, 1), 0);
        // What a route needed, had and was in conflict with in the older layout is gone.
        String all = "section a 1;section b 1;section c 1;points p a;points q b;track a b p normal;track b c q reverse;"
                + "signal g a down;route r g;over r b;over r c;route s g;over s b;lock r s;";
        String few = "section a 1;section b 1;section c 1;points p a;points q b;track a b;track b c;signal g a down;signal h b down;"
                + "route r g;route s h;";
        for (String between : new String[] {"", all.replace("lock r s;", "lock r s;hold 0;")}) {
            Check.layout(x, all);
            Check.due("needs", x.route(0, 5) + x.route(0, 6), 3);
            Check.layout(x, between);
            Check.layout(x, few);
            for (int r = 0; r < 2; r++) {
                for (int what = 2; what < 7; what++) {
                    Check.due("route " + r + " " + what, x.route(r, what), 0);
                }
            }
        }
        // All that met, was out and waited is over.
        String meeting = "section a 1;section b 1;section c 1;track a b;signal g b down;"
                + "train t a down;train u b down;train v c down;";
        Check.layout(x, meeting);
        x.ticks(3);
        Check.due("met", x.now(6) + x.now(5) + x.now(4), 1 + 3 + 4);
        Check.layout(x, meeting);
        Check.due("not any more", x.now(6) + x.now(5) + x.now(4), 0);
    }

    private static void layoutLeaves() {
        Check.part("promise 4: what other calls told last, and images, are no part of it");
        LeverFrame x = Check.laid(Check.JUNCTION);
        x.image(0);
        x.together();
        x.path(1, 0);
        Check.book(x, "tick 9;", 0);
        x.tag(0);
        Check.tape(x, 0, 1);
        x.fits();
        Check.layout(x, "");
        Check.due("those", x.those(), 1);
        Check.due("path", x.pathAt(0), 3);
        Check.due("book", x.told(2), 9);
        Check.due("tag", x.byteAt(0), 'a');
        Check.due("fits", x.fitsAt(7), 8);
        Check.due("ask", x.ask(), 1);
        Check.due("the image", x.restore(0), true);
        Check.due("sections", x.count(0), 4);
    }

    private static void tapeIsEmpty() {
        Check.part("promise 4: The tape (empty then, here and below)");
        LeverFrame x = Check.laid(Check.JUNCTION);
        Check.due("of a layout", x.count(8), 0);
        Check.layout(x, Check.blanks(1460));
        Check.due("of a faulty layout", x.count(8), 0);
        Check.layout(x, Check.JUNCTION);
        Check.tape(x, 0, 1);
        x.fits();
        Check.due("of fits()", x.count(8), 0);
        Check.tape(x, 9, 9, 9);
        Check.due("not as told", x.fits(), -1);
        Check.due("of fits() all the same", x.count(8), 0);
        Check.book(x, "tick 1;", 0);
        Check.due("of a book", x.count(8), 0);
        Check.book(x, "tick 0;", 0);
        Check.due("of a faulty book", x.count(8), 0);
        Check.sentence(x, "out");
        Check.due("of a sentence", x.count(8), 0);
        Check.sentence(x, "outs");
        Check.due("of a faulty sentence", x.count(8), 0);
    }

    private static void faultOfTheLatest() {
        Check.part("promise 5: The kind of the FAULT of the latest layout(), book() or sentence(); 0 without one and ahead of any");
        LeverFrame x = new LeverFrame();
        Check.due("ahead of any", x.fault(), 0);
        Check.tape(x, ".");
        Check.due("ahead of any", x.fault(), 0);
        Check.due("another lives", x.book(-1), -1000);
        Check.due("ahead of any yet", x.fault(), 0);
        String[] layouts = {"hold 3", "hold 0;", "hold 3;hold 3;", Check.times(13, "section s# 1;")};
        String[] books = {"set 1;", "tick 0;", "set rm;", Check.times(41, "tick 1;")};
        String[] sentences = {"", "in 5", "in w", "not not not not not not not not out"};
        int[] kinds = {1, 1, 3, 4};
        for (int i = 0; i < 4; i++) {
            Check.layout(x, layouts[i]);
            Check.due("layout", x.fault(), i + 1);
            Check.tape(x, books[i == 3 ? 0 : i + 1]);
            Check.due("another lives", x.book(2), -1000);
            Check.due("leaves it", x.fault(), i + 1);
            Check.book(x, books[i], 0);
            Check.due("book", x.fault(), i + 1);
            Check.sentence(x, sentences[i]);
            Check.due("sentence", x.fault(), kinds[i]);
        }
        Check.due("no fault", Check.book(x, "", 0), -1);
        Check.due("of a book", x.fault(), 0);
        Check.layout(x, ".");
        Check.sentence(x, "out");
        Check.due("of a sentence", x.fault(), 0);
        Check.sentence(x, ".");
        Check.due("a wrong line is no fault", Check.layout(x, S), 1);
        Check.due("wrong", Check.book(x, "mend s;", 0), 0);
        Check.due("none", x.fault(), 0);
        Check.layout(x, ".");
        x.image(0);
        x.restore(0);
        x.undo();
        x.ticks(1);
        x.fits();
        Check.due("others leave it", x.fault(), 1);
    }
}
