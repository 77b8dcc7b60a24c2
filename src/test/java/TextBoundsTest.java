/** Section 1 of the document and promises 1 to 4: each bound of the text, on both sides. */
final class TextBoundsTest {
    private static final int NONE = Run.NONE, OUTSIDE = Run.OUTSIDE, FULL = Run.FULL, NOT = Run.NOT, UNKNOWN = Run.UNKNOWN;
    private static final String[] PLINTHS = {"", "p1;", "p1;p1;", "p1;p1;p1;", "p1;p1;p1;p1;", "p1;p1;p1;p1;p1;"};
    private static final String SIX = "s0 9 0;s0 9 0;s0 9 0;s0 9 0;s0 9 0;s0 9 0;";
    private static final String SEVEN = "w0 1 0;w0 1 0;w0 1 0;w0 1 0;w0 1 0;w0 1 0;w0 1 0;";

    private static void sentence(String words) {
        Sentences.sentence(words);
    }

    /** The text is taken, with so many plinths. */
    private static Run taken(String text, int plinths) {
        return Run.anew().feed(text).due(text.length(), "told", 4).due(plinths, "capital").due(NONE, "fault").due(0, "told", 4);
    }

    /** The text has this fault at this letter, and there is no capital by it. */
    private static void fault(int number, int at, String text) {
        Run.anew().feed(text).due(-10 - number, "capital").due(at, "fault").due(0, "told", 4).due(0, "told", 0).due(NOT, "year", 1);
    }

    private static String blanks(int many) {
        return " ".repeat(many);
    }

    public static void main(String[] args) {
        aNewObject();
        letters();
        lengths();
        terms();
        views();
        plinths();
        kinds();
        placesOfStatues();
        wants();
        statues();
        ways();
        votes();
        likes();
        walkers();
        figures();
        words();
        blanksInTexts();
        sideBySide();
        firstLetters();
        earlierTexts();
        leastFaults();
        faultOne();
        faultTwo();
        faultThree();
        faultFour();
        emptyTexts();
        faultsLeaveAll();
        capitalsBeginAnew();
        latestFaults();
        Sentences.end("the text");
    }

    private static void aNewObject() {
        sentence("`StatueVotes()`: No CAPITAL.");
        Run x = Run.anew();
        for (int what = 0; what < 14; what++) x.due(what == 9 ? NONE : 0, "told", what);
        x.due(NONE, "fault").due(UNKNOWN, "plinth", 0, 0).due(UNKNOWN, "statue", 0, 0).due(UNKNOWN, "walker", 0, 0);
        x.due(NOT, "year", 1).due(NOT, "drift", 1).due(NOT, "undo").due(0, "seed", 0);
    }

    private static void letters() {
        sentence("One letter (a number 0 .. 255) comes behind THE TEXT: how many it has. OUTSIDE, FULL (240).");
        Run x = Run.anew();
        x.due(OUTSIDE, "feed", -1).due(1, "feed", 0).due(2, "feed", 255).due(OUTSIDE, "feed", 256);
        x.due(OUTSIDE, "feed", Integer.MIN_VALUE).due(OUTSIDE, "feed", Integer.MAX_VALUE).due(2, "told", 4);
        for (int n = 3; n <= 240; n++) x.due(n, "feed", ' ');
        x.due(FULL, "feed", ' ').due(FULL, "feed", 0).due(FULL, "feed", 255).due(OUTSIDE, "feed", -1).due(OUTSIDE, "feed", 256);
        x.due(240, "told", 4).due(-11, "capital").due(0, "fault").due(0, "told", 4).due(1, "feed", 't');
    }

    private static void lengths() {
        sentence("THE CAPITAL is told in a text (240 letters at most)");
        taken(blanks(237) + "t4;", 0).due(4, "told", 0);
        Run.anew().feed(blanks(238) + "t4").due(FULL, "feed", ';').due(-11, "capital").due(240, "fault");
        taken(blanks(239), 0);
        taken(blanks(240), 0);
        fault(1, 239, blanks(239) + "x");
        fault(1, 1, "t" + "t".repeat(239));
        fault(2, 1, "t" + "0".repeat(239));
    }

    private static void terms() {
        sentence("'t' T ';' (TERM of T YEARS, 1 .. 9; first, once)");
        fault(2, 1, "t0;");
        for (int t = 1; t <= 9; t++) taken("t" + t + ";", 0).due(t, "told", 0);
        fault(2, 1, "t10;");
        fault(2, 1, "t999;");
        fault(1, 0, "p1;t1;");
        fault(1, 0, "s0 9 0;t1;");
        fault(1, 0, "w0 1 0;t1;");
        fault(3, 3, "t1;t1;");
    }

    private static void views() {
        sentence("'p' V ';' (5 PLINTHS at most: VIEW V, 0 .. 99)");
        taken("t1;p0;p1;p98;p99;", 4).due(0, "plinth", 0, 0).due(1, "plinth", 1, 0).due(98, "plinth", 2, 0).due(99, "plinth", 3, 0);
        fault(2, 4, "t1;p100;");
        fault(2, 4, "t1;p999;");
    }

    private static void plinths() {
        sentence("a sixth 'p'");
        for (int n = 0; n <= 5; n++) taken("t1;" + PLINTHS[n], n).due(n, "told", 1).due(UNKNOWN, "plinth", n, 0);
        fault(3, 18, "t1;" + PLINTHS[5] + "p1;");
        fault(3, 18, "t1;" + PLINTHS[5] + "p");
        fault(3, 25, "t1;" + PLINTHS[5] + "s0 4 0;p1;");
    }

    private static void kinds() {
        sentence("KIND K, 0 .. 3;");
        for (int k = 0; k <= 3; k++) taken("t1;s" + k + " 9 0;", 0).due(k, "statue", 0, 0);
        fault(2, 4, "t1;s4 9 0;");
        fault(2, 4, "t1;s999 9 0;");
    }

    private static void placesOfStatues() {
        sentence("stands on PLINTH P told ahead, 0 on, where nobody does, or 9: on none;");
        for (int n = 0; n <= 5; n++) {
            for (int p = 0; p <= 10; p++) {
                String text = "t1;" + PLINTHS[n] + "s0 " + p + " 0;";
                if (p < n) taken(text, n).due(p, "statue", 0, 2).due(0, "plinth", p, 1).due(1, "told", 6);
                else if (p == 9) taken(text, n).due(NONE, "statue", 0, 2).due(0, "told", 6);
                else fault(2, 6 + 3 * n, text);
            }
        }
        fault(2, 6, "t1;s0 0 0;p1;");
        taken("t1;p1;s0 0 0;p1;s0 1 0;", 2).due(3, "told", 6).due(0, "told", 7);
        taken("t1;p1;s0 9 0;s0 9 0;s0 0 0;", 1).due(4, "told", 6);
        taken("t1;p1;s0 009 0;", 1).due(NONE, "statue", 0, 2);
        fault(4, 16, "t1;p1;s0 0 0;s0 0 0;");
    }

    private static void wants() {
        sentence("wants a VIEW of W or more, 0 .. 99)");
        taken("t1;s0 9 0;s0 9 1;s0 9 98;s0 9 99;", 0).due(0, "statue", 0, 1).due(1, "statue", 1, 1).due(98, "statue", 2, 1).due(99, "statue", 3, 1);
        fault(2, 8, "t1;s0 9 100;");
    }

    private static void statues() {
        sentence("a seventh 's'");
        for (int n = 0; n <= 6; n++) taken("t1;" + SIX.substring(0, 7 * n), 0).due(n, "told", 2).due(UNKNOWN, "statue", n, 0);
        fault(3, 45, "t1;" + SIX + "s0 9 0;");
        fault(3, 45, "t1;" + SIX + "s");
        fault(3, 48, "t1;" + SIX + "p1;s");
    }

    private static void ways() {
        sentence("walks under the PLINTHS of the SET P, 0 .. 31;");
        for (int n = 0; n <= 5; n++) {
            int all = (1 << n) - 1;
            int at = 4 + 3 * n;
            taken("t1;" + PLINTHS[n] + "w0 1 0;w" + all + " 1 0;", n).due(0, "walker", 0, 0).due(all, "walker", 1, 0);
            fault(2, at, "t1;" + PLINTHS[n] + "w" + (all + 1) + " 1 0;");
            fault(2, at, "t1;" + PLINTHS[n] + "w32 1 0;");
            fault(2, at, "t1;" + PLINTHS[n] + "w" + (32 + all) + " 1 0;");
        }
    }

    private static void votes() {
        sentence("has N votes, 1 .. 9;");
        fault(2, 6, "t1;w0 0 0;");
        for (int n = 1; n <= 9; n++) taken("t1;w0 " + n + " 0;", 0).due(n, "walker", 0, 1);
        fault(2, 6, "t1;w0 10 0;");
    }

    private static void likes() {
        sentence("likes the STATUES of the SET L, 0 .. 63).");
        for (int n = 0; n <= 6; n++) {
            String ahead = "t1;" + SIX.substring(0, 7 * n);
            int all = (1 << n) - 1;
            int at = 8 + 7 * n;
            taken(ahead + "w0 1 0;w0 1 " + all + ";", 0).due(0, "walker", 0, 2).due(all, "walker", 1, 2);
            fault(2, at, ahead + "w0 1 " + (all + 1) + ";");
            fault(2, at, ahead + "w0 1 64;");
            fault(2, at, ahead + "w0 1 " + (64 + all) + ";");
        }
    }

    private static void walkers() {
        sentence("an eighth 'w'");
        for (int n = 0; n <= 7; n++) taken("t1;" + SEVEN.substring(0, 7 * n), 0).due(n, "told", 3).due(UNKNOWN, "walker", n, 0);
        fault(3, 52, "t1;" + SEVEN + "w0 1 0;");
        fault(3, 52, "t1;" + SEVEN + "w");
    }

    private static void figures() {
        sentence("NUMBERS have one to three figures;");
        fault(1, 1, "t;");
        taken("t1;", 0);
        taken("t01;", 0);
        taken("t001;", 0).due(1, "told", 0);
        fault(2, 1, "t0001;");
        fault(2, 1, "t00000000000000001;");
        fault(2, 1, "t4294967297;");
        taken("t9;p099;s003 000 099;w001 009 001;", 1).due(99, "plinth", 0, 0).due(3, "statue", 0, 0).due(99, "statue", 0, 1).due(9, "walker", 0, 1);
        fault(2, 7, "t1;p1;s0000 0 0;");
        fault(2, 9, "t1;p1;s0 0000 0;");
        fault(2, 9, "t1;p1;s0 0009 0;");
        fault(2, 11, "t1;p1;s0 0 0000;");
        fault(2, 7, "t1;p1;w0001 1 0;");
        fault(2, 9, "t1;p1;w1 0001 0;");
        fault(2, 11, "t1;p1;w1 1 0000;");
    }

    private static void words() {
        sentence("a word is one letter;");
        fault(1, 1, "tt1;");
        fault(1, 4, "t1;pp1;");
        fault(1, 1, "term1;");
        for (String word : new String[] {"T", "P", "S", "W", "q", "r", "o", "u", "v", "x", ";", "/", ":", "0", "-"}) {
            fault(1, 0, word + "1;");
            fault(1, 3, "t1;" + word + "1;");
        }
    }

    private static void blanksInTexts() {
        sentence("blanks (32) may stand anywhere but within NUMBERS;");
        taken("t1;p5;s0 0 5;w1 2 1;", 1);
        taken("  t  1  ;  p  5  ;  s  0  0  5  ;  w  1  2  1  ;  ", 1).due(2, "walker", 0, 1);
        fault(1, 6, "t1;p5 0;");
        fault(1, 13, "t1;p5;s0 0 5 0;");
        fault(1, 13, "t1;p5;w1 2 0 0;");
        for (int letter : new int[] {0, 9, 10, 13, 31, 33, 160, 255}) {
            Run.anew().due(1, "feed", letter).feed("t1;").due(-11, "capital").due(0, "fault");
            Run x = Run.anew().feed("t");
            x.due(2, "feed", letter);
            x.feed("1;").due(-11, "capital").due(1, "fault");
        }
    }

    private static void sideBySide() {
        sentence("two NUMBERS side by side need one.");
        taken("t1;p5;s0 0 5;", 1);
        taken("t1;p5;s 0   0  5;", 1);
        fault(1, 10, "t1;p5;s0 0;");
        fault(2, 9, "t1;p5;s0 05;");
        fault(1, 11, "t1;p5;s00 0;");
        fault(2, 7, "t1;p5;s005;");
        fault(2, 7, "t1;p5;w121;");
        fault(1, 10, "t1;p5;w1 2;");
    }

    private static void firstLetters() {
        sentence("FAULTS, at the first letter that has one (the end at the text's length)");
        String whole = "t7;p50;s0 0 40;w1 3 1;";
        for (int n = 0; n <= whole.length(); n++) {
            String text = whole.substring(0, n);
            if (n == 0 || text.endsWith(";")) taken(text, n < 7 ? 0 : 1);
            else fault(1, n, text);
            if (n > 0 && !text.endsWith(";")) fault(1, n + 2, text + "  ");
        }
        fault(2, 1, "t0");
        fault(2, 4, "t1;p100");
        fault(2, 1, "t0;x");
        fault(1, 0, "xt0;");
        fault(1, 2, "t1x;p100;");
        fault(2, 4, "t1;p100x");
        fault(3, 3, "t1;t0x");
        fault(4, 16, "t1;p1;s0 0 0;s0 0 100;");
        fault(2, 14, "t1;p1;s0 0 0;s4 0 0;");
        fault(4, 16, "t1;p1;s0 0 0;s3 0x");
    }

    /** Letters of an earlier text are not read again behind the end of a shorter one. */
    private static void earlierTexts() {
        sentence("THE TEXT (it is empty then, with a FAULT, too)");
        String whole = "t7;p50;s0 0 40;w1 3 1;";
        for (int n = 1; n < whole.length(); n++) {
            String text = whole.substring(0, n);
            Run x = Run.of(whole).due(0, "told", 4).feed(text).due(n, "told", 4);
            if (text.endsWith(";")) x.due(n < 7 ? 0 : 1, "capital").due(NONE, "fault");
            else x.due(-11, "capital").due(n, "fault").due(1, "told", 3);
            x.due(0, "told", 4);
        }
        Run faulty = Run.anew().feed("t77;").due(-12, "capital").due(0, "told", 4).feed("t7").due(-11, "capital").due(2, "fault");
        faulty.due(0, "capital").due(NONE, "fault").due(1, "feed", 't').due(-11, "capital").due(1, "fault");
    }

    private static void leastFaults() {
        sentence("of these the least:");
        fault(1, 25, "t1;" + PLINTHS[5] + "w0 1 0;p1;");
        fault(1, 52, "t1;" + SIX + "w0 1 0;s0 9 0;");
        fault(2, 16, "t1;p1;s0 0 0;s0 0000 0;");
        fault(3, 10, "t1;w0 1 0;t1;");
    }

    private static void faultOne() {
        sentence("1 it cannot stand there (a letter that is no word, another word first than 't'; 'p' behind a 'w', 's' behind a 'w').");
        fault(1, 0, "x");
        fault(1, 3, "t1;x");
        fault(1, 3, "t1;;");
        fault(1, 3, "t1;1");
        fault(1, 0, "p1;");
        fault(1, 0, "s0 9 0;");
        fault(1, 0, "w0 1 0;");
        fault(1, 2, "  w0 1 0;");
        fault(1, 10, "t1;w0 1 0;p1;");
        fault(1, 10, "t1;w0 1 0;s0 9 0;");
        taken("t1;s0 9 0;p1;w0 1 0;w1 1 1;", 1);
        for (String number : new String[] {"x", ";", "t", "-1", "+1"}) {
            fault(1, 1, "t" + number);
            fault(1, 4, "t1;p" + number);
            fault(1, 4, "t1;s" + number);
            fault(1, 6, "t1;s0 " + number);
            fault(1, 8, "t1;s0 9 " + number);
            fault(1, 4, "t1;w" + number);
            fault(1, 6, "t1;w0 " + number);
            fault(1, 8, "t1;w0 1 " + number);
        }
        for (String end : new String[] {"x", "t", "p", ":", " 1"}) {
            int blank = end.startsWith(" ") ? 1 : 0;
            fault(1, 2 + blank, "t1" + end);
            fault(1, 5 + blank, "t1;p1" + end);
            fault(1, 9 + blank, "t1;s0 9 0" + end);
            fault(1, 9 + blank, "t1;w0 1 0" + end);
        }
    }

    private static void faultTwo() {
        sentence("2 a NUMBER of four figures or more, or out of its bounds; a PLINTH that there is not (but 9, where told), bits of PLINTHS, STATUES that there are not (at its first).");
        fault(2, 3, "t  10;");
        fault(2, 3, "t  0001;");
        fault(2, 11, "t1;p1;s0   1 0;");
        fault(2, 9, "t1;p1;w  2 1 0;");
        fault(2, 6, "t1;s0 008 0;");
        fault(2, 6, "t1;s0 10 0;");
        fault(2, 4, "t1;s9 9 0;");
        fault(2, 4, "t1;w9 1 0;");
        fault(2, 13, "t1;p1;w1 1   1;");
        fault(2, 15, "t1;s0 9 0;w0 1 3;");
    }

    private static void faultThree() {
        sentence("3 't' again, a sixth 'p', a seventh 's', an eighth 'w' (at it).");
        fault(3, 3, "t1;t");
        fault(3, 5, "t1;  t");
        fault(3, 6, "t1;p1;t1;");
        fault(3, 19, "t1;" + PLINTHS[5] + " p");
        fault(3, 46, "t1;" + SIX + " s");
        fault(3, 53, "t1;" + SEVEN + " w");
    }

    private static void faultFour() {
        sentence("4 somebody stands on that PLINTH (at the P).");
        fault(4, 18, "t1;p1;s0 0 0;s0   0 0;");
        fault(4, 19, "t1;p1;p1;s0 1 0;s1 001 0;");
        fault(4, 26, "t1;p1;p1;s0 1 0;s1 9 0;s1 1 0;");
        taken("t1;p1;p1;s0 1 0;s1 0 0;", 2).due(3, "told", 6);
    }

    private static void emptyTexts() {
        sentence("An empty text (or one of blanks alone): no CAPITAL.");
        taken("", 0).due(0, "told", 0).due(NOT, "year", 1);
        taken(" ", 0).due(0, "told", 0).due(NOT, "drift", 1);
        for (int many : new int[] {0, 1, 240}) {
            Run x = Run.of("t2;p5;s0 0 0;w1 1 1;");
            x.make("year", 1);
            x.make("count", 0, 1);
            x.make("write", 0, 0);
            x.make("seed", 77);
            x.feed(blanks(many)).due(0, "capital").due(NONE, "fault");
            for (int what = 0; what < 14; what++) x.due(what == 9 ? NONE : 0, "told", what);
            x.due(UNKNOWN, "plinth", 0, 0).due(UNKNOWN, "statue", 0, 0).due(UNKNOWN, "walker", 0, 0);
            x.due(NOT, "year", 1).due(NOT, "undo").due(77, "seed", 0);
        }
    }

    private static Run rich() {
        Run x = Run.of("t2;p5;p6;s0 0 0;s1 9 0;w1 1 1;w3 2 2;");
        x.make("seed", 77);
        // statue 0 is tired by 6, gets down at the election, and rests a year
        x.make("year", 3);
        x.make("stand", 1, 1);
        x.make("keep", 0);
        x.make("count", 0, 1);
        x.make("count", 1, 2);
        x.make("write", 0, 0);
        x.make("walk", 0, 2);
        x.make("like", 1, 3);
        return x;
    }

    private static void faultsLeaveAll() {
        sentence("-10 less the number of its FAULT (all else is as it was).");
        String[] texts = {"x", "t0;", "t1;t", "t1;p1;s0 0 0;s0 0 0;"};
        for (int i = 0; i < texts.length; i++) {
            Run x = rich().feed(texts[i]).due(-11 - i, "capital");
            int[] told = {2, 2, 2, 2, 0, 3, 2, 1, 0, 0, 0, 2, 1, 2};
            for (int what = 0; what < 14; what++) x.due(told[what], "told", what);
            x.due(1, "statue", 0, 3).due(1, "walker", 0, 1).due(2, "walker", 0, 0).due(3, "walker", 1, 2);
            x.due(1, "undo").due(2, "walker", 1, 2).due(0, "undo").due(1, "walker", 0, 0).due(NOT, "undo");
            x.due(77, "seed", 5).due(1, "goBack", 0).due(77, "seed", 5).due(NOT, "goBack", 1);
        }
    }

    private static void capitalsBeginAnew() {
        sentence("becomes THE CAPITAL (YEAR 0, all where told, nobody TIRED, ELECTED, WALKERS as told; nothing COUNTED, no BOOK; IMAGES, what could be undone are gone; THE SEED stays): how many PLINTHS;");
        Run x = rich().feed("t3;p7;s3 0 0;w0 4 0;").due(1, "capital");
        int[] told = {3, 1, 1, 1, 0, 0, 1, 0, 0, 0, 0, 0, 0, 0};
        for (int what = 0; what < 14; what++) x.due(told[what], "told", what);
        x.due(0, "statue", 0, 3).due(0, "statue", 0, 4).due(0, "walker", 0, 0).due(4, "walker", 0, 1).due(0, "walker", 0, 2);
        x.due(NOT, "undo").due(NOT, "goBack", 0).due(NOT, "goBack", 1).due(77, "seed", 0).due(NONE, "judge").due(2, "likings", 0);
        Run same = rich().feed("t2;p5;p6;s0 0 0;s1 9 0;w1 1 1;w3 2 2;").due(2, "capital");
        same.due(0, "told", 5).due(0, "statue", 0, 2).due(NONE, "statue", 1, 2).due(0, "statue", 0, 3).due(0, "statue", 1, 3);
        same.due(1, "walker", 0, 0).due(2, "walker", 1, 2).due(0, "statue", 0, 4);
        Run elected = Run.of("t1;p5;s1 0 0;").due(1, "year", 5).due(5, "statue", 0, 4).feed("t1;p5;s1 0 0;").due(1, "capital");
        elected.due(0, "statue", 0, 4).due(0, "statue", 0, 3).due(0, "told", 5).due(1, "year", 1).due(1, "statue", 0, 4);
    }

    private static void latestFaults() {
        sentence("The letter of the FAULT of the latest capital(); NONE.");
        Run x = Run.anew().due(NONE, "fault");
        x.feed("t1;x").due(NONE, "fault").due(-11, "capital").due(3, "fault");
        x.feed("t").due(3, "fault").due(-11, "capital").due(1, "fault");
        x.feed("t1;").due(1, "fault").due(0, "capital").due(NONE, "fault");
        x.feed("t0;").due(-12, "capital").due(1, "fault").due(0, "capital").due(NONE, "fault");
    }
}
