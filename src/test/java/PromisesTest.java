/** Each promise by ordinary inputs, by the edges that the document names and by wrong inputs; worked out by hand. */
final class PromisesTest {
    private static final int NONE = -1, UNKNOWN = -1000000001, OUTSIDE = -1000000002, NOT = -1000000003, FULL = -1000000004;
    private static final int LEAST = Integer.MIN_VALUE, MOST = Integer.MAX_VALUE;

    /** Term 4; views 50, 10, 80; a pointing, a mounted statue stand, a waiting, a seated one do not; four walkers. */
    private static final String FOUR = "t4;p50;p10;p80;s0 0 40;s2 1 60;s3 9 5;s1 9 70;w1 3 1;w3 2 6;w7 1 9;w4 5 12;";
    /** Term 9; one of each kind and a mounted one that sees less than it wants; nobody walks. */
    private static final String KINDS = "t9;p50;p50;p50;p50;p40;s0 0 0;s1 1 0;s2 2 50;s3 3 0;s2 4 41;";

    private static int wrong = 0;
    private static int asked = 0;
    private static int promise = 0;

    private static void due(String what, int got, int want) {
        asked++;
        if (got != want) {
            wrong++;
            System.out.println("promise " + promise + ": " + what + " answered " + got + ", due is " + want);
        }
    }

    private static void feed(StatueVotes x, String text) {
        for (int i = 0; i < text.length(); i++) x.feed(text.charAt(i));
    }

    private static StatueVotes of(String text) {
        StatueVotes x = new StatueVotes();
        feed(x, text);
        int plinths = x.capital();
        if (plinths < 0) due("capital of " + text, plinths, 0);
        return x;
    }

    public static void main(String[] args) {
        newObject();
        feeding();
        capitals();
        faults();
        telling();
        plinths();
        statues();
        walkers();
        years();
        elections();
        lastYears();
        standingUp();
        gettingDown();
        scrubbing();
        walking();
        liking();
        drifting();
        undoing();
        standingLater();
        goingDown();
        changes();
        powers();
        mostWouldHave();
        placing();
        swapping();
        closeVotes();
        counting();
        likings();
        ladders();
        writing();
        tearing();
        judging();
        seeds();
        images();
        System.out.println(asked + " answers by the promises, " + wrong + " wrong");
        if (wrong != 0) System.exit(1);
    }

    private static void newObject() {
        promise = 1;
        StatueVotes x = new StatueVotes();
        for (int what = 0; what <= 13; what++) due("told(" + what + ")", x.told(what), what == 9 ? NONE : 0);
        due("fault", x.fault(), NONE);
        due("plinth", x.plinth(0, 0), UNKNOWN);
        due("statue", x.statue(0, 0), UNKNOWN);
        due("walker", x.walker(0, 0), UNKNOWN);
        due("stand", x.stand(0, 0), UNKNOWN);
        due("down", x.down(0), UNKNOWN);
        due("scrub", x.scrub(0), UNKNOWN);
        due("walk", x.walk(0, 0), UNKNOWN);
        due("like", x.like(0, 0), UNKNOWN);
        due("standing", x.standing(0, 61), UNKNOWN);
        due("goesDown", x.goesDown(0), UNKNOWN);
        due("change", x.change(0, 2), UNKNOWN);
        due("power", x.power(0, 0, 2), UNKNOWN);
        due("mostHave", x.mostHave(0, 1), UNKNOWN);
        due("places", x.places(0), UNKNOWN);
        due("count", x.count(0, 100), UNKNOWN);
        due("write", x.write(0, NONE), UNKNOWN);
        due("tear", x.tear(), 0);
        due("goBack", x.goBack(0), NOT);
        due("keep", x.keep(0), 1);
        due("goBack to no capital", x.goBack(0), 1);
        due("year", x.year(1), NOT);
    }

    private static void feeding() {
        promise = 2;
        StatueVotes x = new StatueVotes();
        due("feed(-1)", x.feed(-1), OUTSIDE);
        due("feed(256)", x.feed(256), OUTSIDE);
        due("feed(0)", x.feed(0), 1);
        due("feed(255)", x.feed(255), 2);
        for (int n = 3; n <= 240; n++) due("feed", x.feed(' '), n);
        due("the 241st", x.feed(' '), FULL);
        due("feed(256), full", x.feed(256), OUTSIDE);
        due("letters", x.told(4), 240);
        due("capital", x.capital(), -11);
        due("fault", x.fault(), 0);
        due("letters, behind it", x.told(4), 0);
        due("feed", x.feed('t'), 1);
        StatueVotes y = new StatueVotes();
        for (int n = 0; n < 237; n++) y.feed(' ');
        feed(y, "t4;");
        due("a text of 240", y.capital(), 0);
        due("its term", y.told(0), 4);
        for (int n = 0; n < 240; n++) y.feed('t');
        due("no end to be found", y.capital(), -11);
        due("at its second", y.fault(), 1);
    }

    private static void capitals() {
        promise = 3;
        StatueVotes x = of(FOUR);
        due("plinths", x.told(1), 3);
        x.seed(77);
        x.year(3);
        x.count(0, 3);
        x.write(0, 0);
        x.keep(1);
        x.scrub(0);
        feed(x, "t4;p1;q");
        due("with a fault", x.capital(), -11);
        due("its letter", x.fault(), 6);
        int[] asItWas = {4, 3, 4, 4, 0, 3, 3, 4, 0, 2, 0, 1, 1, 1};
        for (int what = 0; what <= 13; what++) due("as it was: told(" + what + ")", x.told(what), asItWas[what]);
        due("tired", x.statue(1, 3), 12);
        due("image", x.goBack(1), 1);
        x.keep(0);
        x.scrub(0);
        feed(x, "t2;p5;p6;s0 1 9;w2 3 1;");
        due("capital", x.capital(), 2);
        due("fault, none", x.fault(), NONE);
        int[] asTold = {2, 2, 1, 1, 0, 0, 1, 1, 0, 0, 0, 0, 0, 0};
        for (int what = 0; what <= 13; what++) due("as told: told(" + what + ")", x.told(what), asTold[what]);
        due("tired", x.statue(0, 3), 0);
        due("elected", x.statue(0, 4), 0);
        due("undo", x.undo(), NOT);
        due("images are gone", x.goBack(0), NOT);
        due("images are gone", x.goBack(1), NOT);
        due("the seed stays", x.seed(0), 77);
        x.year(2);
        due("elected", x.statue(0, 4), 1);
        due("an empty text", x.capital(), 0);
        due("no capital", x.told(0), 0);
        due("year", x.year(1), NOT);
        due("no walkers", x.told(3), 0);
        feed(x, "t2;p5;s0 0 9;w1 3 0;");
        due("capital again", x.capital(), 1);
        due("nobody tired", x.statue(0, 3), 0);
        due("elected", x.statue(0, 4), 0);
        due("ways", x.walker(0, 0), 1);
    }

    private static void fault(String text, int answer, int at) {
        StatueVotes x = new StatueVotes();
        feed(x, text);
        due("capital of '" + text + "'", x.capital(), answer);
        due("fault of '" + text + "'", x.fault(), at);
        due("letters behind '" + text + "'", x.told(4), 0);
    }

    private static void faults() {
        promise = 4;
        fault("", 0, NONE);
        fault("   ", 0, NONE);
        fault("t4;", 0, NONE);
        fault(" t 4 ; ", 0, NONE);
        fault("t004;p099 ;", 1, NONE);
        fault("t9;p0;s0 9 0;p1;s0 1 0;p2;", 3, NONE);
        fault("t1;p5;s0 09 0;s3 000 99;w0 9 3;w1 1 0;", 1, NONE);
        fault("t4;w0 1 0;", 0, NONE);
        // 1: it cannot stand there
        fault("p1;", -11, 0);
        fault(" w", -11, 1);
        fault("4", -11, 0);
        fault(";", -11, 0);
        fault("T4;", -11, 0);
        fault("t", -11, 1);
        fault("t  ", -11, 3);
        fault("t4", -11, 2);
        fault("t4 ", -11, 3);
        fault("t;", -11, 1);
        fault("t4 5;", -11, 3);
        fault("t4p5;", -11, 2);
        fault("t4;;", -11, 3);
        fault("t4;x", -11, 3);
        fault("t4;7", -11, 3);
        fault("t4;pt", -11, 4);
        fault("t4;p1\n;", -11, 5);
        fault("t4;p-1;", -11, 4);
        fault("t4;s0 9;", -11, 7);
        fault("t4;w0 1 0 0;", -11, 10);
        fault("t4;w0 1 0;p1;", -11, 10);
        fault("t4;w0 1 0;s0 9 0;", -11, 10);
        fault("t4;p1;p2;p3;p4;p5;w0 1 0;p6;", -11, 25);
        fault("t4;s0 9 0;s0 9 0;s0 9 0;s0 9 0;s0 9 0;s0 9 0;w0 1 0;s", -11, 52);
        // 2: numbers
        fault("t0;", -12, 1);
        fault("t 10x", -12, 2);
        fault("t0004;", -12, 1);
        fault("t99999999999999999999;", -12, 1);
        fault("t1;p100;", -12, 4);
        fault("t1;p100", -12, 4);
        fault("t1;p1000;", -12, 4);
        fault("t1;s4 9 0;", -12, 4);
        fault("t1;s0 0 0;p1;", -12, 6);
        fault("t1;p1;s0 1 0;", -12, 9);
        fault("t1;p1;p1;p1;p1;p1;s0 5 0;", -12, 21);
        fault("t1;p1;s0 8 0;", -12, 9);
        fault("t1;s0 10 0;", -12, 6);
        fault("t1;s0 9 100;", -12, 8);
        fault("t1;p1;w2 1 0;", -12, 7);
        fault("t1;p1;p1;p1;p1;p1;w32 1 0;", -12, 19);
        fault("t1;p1;w1 0 0;", -12, 9);
        fault("t1;p1;w1 10 0;", -12, 9);
        fault("t1;p1;w1 1 1;", -12, 11);
        fault("t1;s0 9 0;w0 1 2;", -12, 15);
        fault("t1;p1;w111;", -12, 7);
        fault("t1;p1;s0 0 0;s1 0000 0;", -12, 16);
        // 3: one too many
        fault("t1;t", -13, 3);
        fault("t4;w0 1 0;t1;", -13, 10);
        fault("t4;p1;p2;p3;p4;p5;p100;", -13, 18);
        fault("t4;s0 9 0;s0 9 0;s0 9 0;s0 9 0;s0 9 0;s0 9 0;s", -13, 45);
        fault("t4;w0 1 0;w0 1 0;w0 1 0;w0 1 0;w0 1 0;w0 1 0;w0 1 0;w0 1 0;", -13, 52);
        // 4: somebody stands there
        fault("t4;p1;s0 0 0;s1 0 100;", -14, 16);
        fault("t4;p1;s0 0 0;s1   00x", -14, 18);
        StatueVotes x = of("t4;");
        due("of the latest", x.fault(), NONE);
        feed(x, "t4");
        due("not yet taken", x.fault(), NONE);
    }

    private static void telling() {
        promise = 5;
        StatueVotes x = of(FOUR);
        int[] first = {4, 3, 4, 4, 0, 0, 3, 4, 0, 2, 0, 0, 0, 0};
        for (int what = 0; what <= 13; what++) due("told(" + what + ")", x.told(what), first[what]);
        due("told(-1)", x.told(-1), OUTSIDE);
        due("told(14)", x.told(14), OUTSIDE);
        due("told(least)", x.told(LEAST), OUTSIDE);
        x.feed('t');
        due("letters", x.told(4), 1);
        x.down(0);
        due("who stands", x.told(6), 2);
        due("waiting", x.told(7), 5);
        x.like(1, 0);
        due("statue 1 is against 3 votes", x.told(8), 2);
        x.count(0, 0);
        x.write(0, 0);
        x.write(0, 0);
        due("counts", x.told(11), 1);
        due("entries", x.told(12), 2);
        due("to undo", x.told(13), 2);
        due("one alone is beloved", of("t1;s0 9 0;").told(9), 0);
        due("of two like ones none is", of("t1;s0 9 0;s0 9 0;").told(9), NONE);
        due("two, by a vote", of("t1;s0 9 0;s0 9 0;w0 1 2;").told(9), 1);
        due("two ahead of a third", of("t1;s0 9 0;s0 9 0;s0 9 0;w0 1 3;").told(9), NONE);
        due("rings", of("t1;s0 9 0;s0 9 0;s0 9 0;w0 3 1;w0 2 2;w0 1 4;").told(10), 0);
    }

    private static void plinths() {
        promise = 6;
        StatueVotes x = of(FOUR);
        int[][] all = {{50, 0, 7, 6}, {10, 1, 6, 3}, {80, NONE, 12, 6}};
        for (int p = 0; p < 3; p++) {
            for (int what = 0; what < 4; what++) due("plinth(" + p + ", " + what + ")", x.plinth(p, what), all[p][what]);
        }
        due("plinth(3, 0)", x.plinth(3, 0), UNKNOWN);
        due("plinth(-1, 9)", x.plinth(-1, 9), UNKNOWN);
        due("plinth(0, 4)", x.plinth(0, 4), OUTSIDE);
        due("plinth(0, -1)", x.plinth(0, -1), OUTSIDE);
        x.walk(3, 1);
        due("one more under it", x.plinth(0, 2), 15);
        due("their votes", x.plinth(0, 3), 11);
        due("one less", x.plinth(2, 2), 4);
    }

    private static void statues() {
        promise = 7;
        StatueVotes x = of(FOUR);
        int[][] all = {{0, 40, 0, 0, 0, 1002, 5}, {2, 60, 1, 0, 0, 1001, 2}, {3, 5, NONE, 0, 0, NONE, 10}, {1, 70, NONE, 0, 0, NONE, 12}};
        for (int s = 0; s < 4; s++) {
            for (int what = 0; what < 7; what++) due("statue(" + s + ", " + what + ")", x.statue(s, what), all[s][what]);
        }
        due("statue(4, 0)", x.statue(4, 0), UNKNOWN);
        due("statue(-1, 7)", x.statue(-1, 7), UNKNOWN);
        due("statue(0, 7)", x.statue(0, 7), OUTSIDE);
        due("statue(0, -1)", x.statue(0, -1), OUTSIDE);
        due("nobody under it", of("t1;p0;s0 0 0;").statue(0, 5), 1000);
        due("all against it", of("t1;p0;s0 0 0;w1 9 0;w1 9 0;w1 9 0;w1 9 0;w1 9 0;w1 9 0;w1 9 0;").statue(0, 5), 937);
        due("all for it", of("t1;p0;s0 0 0;w1 9 1;w1 9 1;w1 9 1;w1 9 1;w1 9 1;w1 9 1;w1 9 1;").statue(0, 5), 1063);
    }

    private static void walkers() {
        promise = 8;
        StatueVotes x = of(FOUR);
        int[][] all = {{1, 3, 1}, {3, 2, 6}, {7, 1, 9}, {4, 5, 12}};
        for (int w = 0; w < 4; w++) {
            for (int what = 0; what < 3; what++) due("walker(" + w + ", " + what + ")", x.walker(w, what), all[w][what]);
        }
        due("walker(4, 0)", x.walker(4, 0), UNKNOWN);
        due("walker(-1, 3)", x.walker(-1, 3), UNKNOWN);
        due("walker(0, 3)", x.walker(0, 3), OUTSIDE);
        due("walker(0, -1)", x.walker(0, -1), OUTSIDE);
    }

    private static void years() {
        promise = 9;
        StatueVotes x = of(KINDS);
        due("a year", x.year(1), 31);
        int[] tired = {3, 1, 2, 0, 4};
        for (int s = 0; s < 5; s++) due("tired " + s, x.statue(s, 3), tired[s]);
        due("six more", x.year(6), 31);
        due("tired by 28", x.statue(4, 3), 28);
        due("the eighth", x.year(1), 15);
        due("tired by 32", x.statue(4, 3), 32);
        due("the ninth, with an election", x.year(1), 15);
        for (int s = 0; s < 5; s++) due("elected " + s, x.statue(s, 4), s < 4 ? 1 : 0);
        due("5 less", x.statue(4, 3), 27);
        due("the pointing one is at 27", x.statue(0, 3), 27);
        due("and gets down at 30", x.year(1), 14);
        due("tired", x.statue(0, 3), 30);
        due("six years", x.year(6), 10);
        due("it has rested", x.statue(0, 3), 0);
        due("another too", x.statue(4, 3), 0);
        due("the mounted one got down at 15", x.statue(2, 3), 25);
        due("year 16", x.told(5), 16);
        due("less than 5 is 0", x.year(5), 10);
        due("less than 5 is 0", x.statue(2, 3), 0);
        due("waiting is not tired", x.statue(3, 3), 0);
        due("seated at 21", x.statue(1, 3), 21);
        due("60 years", x.year(60), 8);
        due("year(0)", x.year(0), OUTSIDE);
        due("year(61)", x.year(61), OUTSIDE);
        due("year(-1)", x.year(-1), OUTSIDE);
        due("year(61), no capital", new StatueVotes().year(61), OUTSIDE);
        due("year(60), no capital", new StatueVotes().year(60), NOT);
        StatueVotes y = of(KINDS);
        y.year(8);
        for (int i = 1; i <= 16; i++) {
            y.stand(4, 4);
            y.year(1);
            due("gets down at once", y.statue(4, 2), NONE);
            due("more tired", y.statue(4, 3), 32 + 4 * i);
        }
        y.stand(4, 4);
        y.year(1);
        due("99 at most", y.statue(4, 3), 99);
    }

    private static void elections() {
        StatueVotes even = of("t1;p0;s3 0 0;w1 2 1;w1 2 0;");
        due("as many for as against", even.year(3), 1);
        due("elected", even.statue(0, 4), 3);
        StatueVotes less = of("t2;p0;s3 0 0;w1 2 1;w1 3 0;");
        due("not yet asked", less.year(1), 1);
        due("not gone on", less.year(1), 0);
        due("elected", less.statue(0, 4), 0);
        due("waiting", less.told(7), 1);
        StatueVotes tired = of("t1;p0;s0 0 0;");
        due("gets down ahead of the tenth", tired.year(10), 0);
        due("elected", tired.statue(0, 4), 9);
        StatueVotes both = of("t1;p0;p0;s3 0 0;s3 1 0;w3 1 0;");
        due("all by the same votes", both.year(1), 0);
    }

    private static void lastYears() {
        StatueVotes x = of("t7;p0;s3 0 0;");
        for (int i = 0; i < 150; i++) x.year(60);
        due("years", x.told(5), 9000);
        due("9000 is not above", x.year(60), 1);
        due("years", x.told(5), 9060);
        due("year", x.year(1), FULL);
        due("drift", x.drift(1), FULL);
        due("year(0)", x.year(0), OUTSIDE);
        due("tried all the same", x.standing(0, 60), 0);
        due("elected", x.statue(0, 4), 9060 / 7);
        due("undo", x.undo(), 15);
        due("years", x.told(5), 9000);
        due("year", x.year(1), 1);
        due("above", x.year(1), FULL);
    }

    private static void standingUp() {
        promise = 10;
        StatueVotes x = of(FOUR);
        due("stand(3, 2)", x.stand(3, 2), 1006);
        due("its plinth", x.statue(3, 2), 2);
        due("it stands", x.stand(3, 2), NOT);
        due("somebody is there", x.stand(2, 0), NOT);
        due("stand(4, 0)", x.stand(4, 0), UNKNOWN);
        due("stand(0, 3)", x.stand(0, 3), UNKNOWN);
        due("stand(-1, 0)", x.stand(-1, 0), UNKNOWN);
        due("stand(2, NONE)", x.stand(2, NONE), UNKNOWN);
        due("stand(2, 9)", x.stand(2, 9), UNKNOWN);
        due("one done", x.told(13), 1);
        x.down(0);
        due("stand(2, 0)", x.stand(2, 0), 998);
    }

    private static void gettingDown() {
        promise = 11;
        StatueVotes x = of(FOUR);
        x.year(2);
        due("down(1)", x.down(1), 1);
        due("its plinth", x.statue(1, 2), NONE);
        due("as tired as before", x.statue(1, 3), 8);
        due("nobody there", x.plinth(1, 1), NONE);
        due("again", x.down(1), NOT);
        due("never stood", x.down(2), NOT);
        due("down(4)", x.down(4), UNKNOWN);
        due("down(-1)", x.down(-1), UNKNOWN);
        due("two done", x.told(13), 2);
    }

    private static void scrubbing() {
        promise = 12;
        StatueVotes x = of(FOUR);
        x.year(2);
        due("scrub(1)", x.scrub(1), 8);
        due("scrub(1) again", x.scrub(1), 0);
        due("it stands still", x.statue(1, 2), 1);
        due("others are tired", x.statue(0, 3), 6);
        due("scrub(4)", x.scrub(4), UNKNOWN);
        due("scrub(-1)", x.scrub(-1), UNKNOWN);
        due("three done", x.told(13), 3);
    }

    private static void walking() {
        promise = 13;
        StatueVotes x = of(FOUR);
        due("walk(3, 3)", x.walk(3, 3), 4);
        due("walk(3, 0)", x.walk(3, 0), 3);
        due("walk(3, 7)", x.walk(3, 7), 0);
        due("walk(3, 8)", x.walk(3, 8), UNKNOWN);
        due("walk(3, -1)", x.walk(3, -1), UNKNOWN);
        due("walk(3, least)", x.walk(3, LEAST), UNKNOWN);
        due("walk(4, 0)", x.walk(4, 0), UNKNOWN);
        due("walk(-1, 0)", x.walk(-1, 0), UNKNOWN);
        due("three done", x.told(13), 3);
        due("ways", x.walker(3, 0), 7);
        due("margin", x.statue(0, 5), 997);
    }

    private static void liking() {
        promise = 14;
        StatueVotes x = of(FOUR);
        due("like(1, 9)", x.like(1, 9), 6);
        due("like(1, 0)", x.like(1, 0), 9);
        due("like(1, 15)", x.like(1, 15), 0);
        due("like(1, 16)", x.like(1, 16), UNKNOWN);
        due("like(1, -1)", x.like(1, -1), UNKNOWN);
        due("like(4, 0)", x.like(4, 0), UNKNOWN);
        due("like(-1, 0)", x.like(-1, 0), UNKNOWN);
        due("three done", x.told(13), 3);
        due("margin", x.statue(0, 5), 1006);
        due("ways stay", x.walker(1, 0), 3);
    }

    private static void drifting() {
        promise = 15;
        // from 0 the seed is 12345, 1406932606, 654583775: draws of 4, 4, 3 are 0, 0, 1
        StatueVotes x = of(FOUR);
        due("drift(1)", x.drift(1), 3);
        due("walker 0 walks under plinth 1, too", x.walker(0, 0), 3);
        due("a year behind it", x.statue(0, 3), 3);
        due("three draws", x.seed(0), 654583775);
        due("drift(1)", x.drift(1), 3);
        due("and then no more", x.walker(0, 0), 1);
        // from 4: draws of 4, 4, 3 are 1, 2, 0
        x.seed(4);
        due("somebody is there", x.drift(1), 3);
        due("drawn all the same", x.seed(4), 687545011);
        x.down(0);
        x.year(1);
        due("now it can", x.drift(1), 6);
        due("statue 2 on plinth 0", x.statue(2, 2), 0);
        x.seed(4);
        x.down(1);
        due("it stands", x.drift(1), 4);
        // from 1: draws of 4, 3 are 2, 1
        StatueVotes y = of("t9;p50;p50;s0 0 0;s0 1 0;s3 9 0;");
        y.year(5);
        y.seed(1);
        due("drift(1)", y.drift(1), 3);
        due("statue 1 was scrubbed", y.statue(1, 3), 3);
        due("statue 0 was not", y.statue(0, 3), 18);
        due("two draws", y.seed(3), 377401575);
        due("on 3 nothing", y.drift(1), 3);
        due("one draw", y.seed(0), 1163074432);
        y.drift(1);
        due("no walkers: one draw", y.seed(4), 12345);
        StatueVotes z = of("t9;s0 9 0;w0 1 0;");
        z.seed(4);
        z.drift(1);
        due("no plinths: one draw", z.seed(0), 119106029);
        z.drift(1);
        due("no plinths: one draw", z.seed(1), 12345);
        StatueVotes none = of("t9;p0;");
        none.seed(1);
        none.drift(1);
        due("no statues: one draw", none.seed(0), 1103527590);
        none.seed(4);
        none.drift(1);
        due("no statues: one draw", none.seed(0), 119106029);
        StatueVotes single = of("t9;p0;s0 9 0;w0 1 1;");
        due("drift(1)", single.drift(1), 0);
        due("the one walker, the one plinth", single.walker(0, 0), 1);
        single.seed(4);
        due("the one statue", single.drift(1), 1);
        single.seed(1);
        due("is scrubbed", single.drift(1), 1);
        due("and tired anew", single.statue(0, 3), 3);
        due("drift(0)", z.drift(0), OUTSIDE);
        due("drift(61)", z.drift(61), OUTSIDE);
        due("drift(61), no capital", new StatueVotes().drift(61), OUTSIDE);
        due("drift(60), no capital", new StatueVotes().drift(60), NOT);
    }

    private static void undoing() {
        promise = 16;
        StatueVotes x = of(FOUR);
        due("nothing yet", x.undo(), NOT);
        x.year(7);
        x.stand(3, 2);
        x.down(0);
        x.scrub(1);
        x.walk(0, 6);
        x.like(0, 14);
        x.seed(0);
        x.drift(30);
        int drawn = x.seed(9);
        x.seed(drawn);
        x.count(0, 1);
        x.write(0, 0);
        x.standing(0, 9);
        x.down(2);
        x.year(0);
        due("seven", x.told(13), 7);
        due("drift", x.undo(), 6);
        due("the seed stays", x.seed(drawn), drawn);
        due("years", x.told(5), 7);
        due("ways", x.walker(0, 0), 6);
        due("like", x.undo(), 5);
        due("likes", x.walker(0, 2), 1);
        due("walk", x.undo(), 4);
        due("ways", x.walker(0, 0), 1);
        due("scrub", x.undo(), 3);
        due("tired", x.statue(1, 3), 28);
        due("down", x.undo(), 2);
        due("plinth", x.statue(0, 2), 0);
        due("stand", x.undo(), 1);
        due("plinth", x.statue(3, 2), NONE);
        due("elected", x.statue(0, 4), 1);
        due("year", x.undo(), 0);
        due("elected", x.statue(0, 4), 0);
        due("tired", x.statue(0, 3), 0);
        due("years", x.told(5), 0);
        due("none", x.undo(), NOT);
        due("counts stay", x.told(11), 1);
        due("the book stays", x.told(12), 1);
        for (int i = 1; i <= 20; i++) {
            x.year(1);
            due("16 at most", x.told(13), Math.min(i, 16));
        }
        for (int i = 15; i >= 0; i--) due("undo", x.undo(), i);
        due("the oldest are lost", x.told(5), 4);
        due("none", x.undo(), NOT);
    }

    private static void standingLater() {
        promise = 17;
        StatueVotes x = of(FOUR);
        due("now", x.standing(0, 0), 0);
        due("not now", x.standing(2, 0), NONE);
        due("behind 9", x.standing(0, 9), 0);
        due("behind 10", x.standing(0, 10), NONE);
        due("behind 7", x.standing(1, 7), 1);
        due("behind 8", x.standing(1, 8), NONE);
        due("behind 60", x.standing(1, 60), NONE);
        due("behind 61", x.standing(1, 61), OUTSIDE);
        due("behind -1", x.standing(1, -1), OUTSIDE);
        due("standing(4, 61)", x.standing(4, 61), UNKNOWN);
        due("nothing changes", x.told(5), 0);
        due("nothing changes", x.statue(0, 3), 0);
        due("nothing to undo", x.told(13), 0);
    }

    private static void goingDown() {
        promise = 18;
        StatueVotes x = of(KINDS);
        int[] first = {10, 30, 15, NONE, 8};
        for (int s = 0; s < 5; s++) due("goesDown(" + s + ")", x.goesDown(s), first[s]);
        x.down(2);
        due("0: not now", x.goesDown(2), 0);
        due("goesDown(5)", x.goesDown(5), UNKNOWN);
        due("goesDown(-1)", x.goesDown(-1), UNKNOWN);
        due("nothing changes", x.told(5), 0);
        StatueVotes y = of("t9;p0;s3 0 0;w1 1 0;");
        due("at the election", y.goesDown(0), 9);
        y.year(4);
        due("from now", y.goesDown(0), 5);
    }

    private static void changes() {
        promise = 19;
        StatueVotes x = of(FOUR);
        due("so already", x.change(0, 0), 0);
        due("walker 0 no more", x.change(0, 1), 1);
        due("does not stand", x.change(2, 0), NOT);
        due("change(2, 2)", x.change(2, 2), OUTSIDE);
        due("change(0, -1)", x.change(0, -1), OUTSIDE);
        due("change(4, 2)", x.change(4, 2), UNKNOWN);
        due("fewest, not least", of("t1;p0;p1;s3 0 0;w1 3 1;w2 2 0;w2 2 0;w2 4 0;").change(0, 1), 8);
        due("of like ones the least", of("t1;p0;p1;s3 0 0;w2 1 0;w2 1 0;").change(0, 1), 1);
        due("no way", of("t1;p0;s3 0 0;w1 2 1;w0 3 1;").change(0, 1), NONE);
        due("nobody walks", of("t1;p0;s3 0 0;").change(0, 1), NONE);
        due("nobody walks", of("t1;p0;s3 0 0;").change(0, 0), 0);
        StatueVotes against = of("t1;p0;s3 0 0;w1 2 0;w1 3 0;w0 4 1;");
        due("so already", against.change(0, 1), 0);
        due("of one no more and one as well, neither does", against.change(0, 0), 3);
        due("one as well does", of("t1;p0;s3 0 0;w1 2 0;w1 3 0;w0 5 1;").change(0, 0), 4);
        due("nothing changes", against.plinth(0, 2), 3);
    }

    private static void powers() {
        promise = 20;
        StatueVotes x = of(FOUR);
        due("3 of 6, orders", x.power(0, 0, 0), 4);
        due("2 of 6, orders", x.power(1, 0, 0), 1);
        due("3 of 6, sets", x.power(0, 0, 1), 3);
        due("1 of 6, sets", x.power(2, 0, 1), 1);
        due("not there", x.power(3, 0, 0), 0);
        due("not there", x.power(3, 0, 1), 0);
        due("power(4, 0, 2)", x.power(4, 0, 2), UNKNOWN);
        due("power(0, 3, 2)", x.power(0, 3, 2), UNKNOWN);
        due("power(-1, 0, 0)", x.power(-1, 0, 0), UNKNOWN);
        due("power(0, -1, 0)", x.power(0, -1, 0), UNKNOWN);
        due("power(0, 0, 2)", x.power(0, 0, 2), OUTSIDE);
        due("power(3, 0, -1)", x.power(3, 0, -1), OUTSIDE);
        StatueVotes seven = of("t1;p0;w1 1 0;w1 1 0;w1 1 0;w1 1 0;w1 1 0;w1 1 0;w1 1 0;");
        due("the fourth of seven", seven.power(6, 0, 0), 720);
        due("three of six others", seven.power(6, 0, 1), 20);
        seven.walk(0, 0);
        due("the third of six", seven.power(6, 0, 0), 120);
        due("two of five others", seven.power(6, 0, 1), 10);
        StatueVotes ruler = of("t1;p0;w1 9 0;w1 1 0;w1 1 0;w1 1 0;w1 1 0;w1 1 0;w1 1 0;");
        due("all orders", ruler.power(0, 0, 0), 5040);
        due("all sets", ruler.power(0, 0, 1), 64);
        due("no order", ruler.power(1, 0, 0), 0);
        StatueVotes one = of("t1;p0;w1 9 0;");
        due("alone", one.power(0, 0, 0), 1);
        due("alone", one.power(0, 0, 1), 1);
    }

    private static void mostWouldHave() {
        promise = 21;
        StatueVotes x = of(FOUR);
        // votes that like them: 4, 2, 7, 6
        int[] liked = {4, 2, 7, 6};
        for (int s = 0; s < 4; s++) {
            for (int q = 0; q < 4; q++) {
                int want = s == q ? UNKNOWN : liked[s] > liked[q] ? 1 : 0;
                due("mostHave(" + s + ", " + q + ")", x.mostHave(s, q), want);
            }
        }
        due("mostHave(0, 4)", x.mostHave(0, 4), UNKNOWN);
        due("mostHave(4, 0)", x.mostHave(4, 0), UNKNOWN);
        due("mostHave(-1, 0)", x.mostHave(-1, 0), UNKNOWN);
        x.like(3, 8);
        due("by whom they like now", x.mostHave(2, 3), 0);
        due("even", of("t1;s0 9 0;s0 9 0;w0 2 1;w0 2 2;").mostHave(0, 1), 0);
    }

    private static void placed(String text, int many, int view, int... of) {
        StatueVotes x = of(text);
        due("places(NONE) of " + text, x.places(NONE), many);
        due("places(-2) of " + text, x.places(-2), view);
        for (int s = 0; s < of.length; s++) due("places(" + s + ") of " + text, x.places(s), of[s]);
        due("one that there is not", x.places(of.length), UNKNOWN);
        due("places(-3)", x.places(-3), UNKNOWN);
        due("places(least)", x.places(LEAST), UNKNOWN);
    }

    private static void placing() {
        promise = 22;
        placed(FOUR, 3, 140, 0, 2, 1, NONE);
        placed("t1;p99;p10;s0 9 0;s0 9 50;", 2, 109, 1, 0);
        placed("t1;p10;p99;s0 9 0;", 1, 99, 1);
        placed("t1;p7;p7;s0 9 7;", 1, 7, 0);
        placed("t1;p7;s0 9 7;s0 9 0;", 1, 7, 0, NONE);
        placed("t1;p7;s0 9 8;s0 9 7;", 1, 7, NONE, 0);
        placed("t1;p7;s0 9 8;", 0, 0, NONE);
        placed("t1;p0;p0;s0 1 0;s0 0 0;", 2, 0, 0, 1);
        placed("t1;s0 9 0;", 0, 0, NONE);
        placed("t1;p5;", 0, 0);
        placed("t1;p1;p2;p3;p4;p5;s0 9 5;s0 9 4;s0 9 3;s0 9 2;s0 9 1;s0 9 0;", 5, 15, 4, 3, 2, 1, 0, NONE);
        placed("t1;p99;p99;p99;p99;p99;s0 9 0;s0 9 0;s0 9 0;s0 9 0;s0 9 0;s0 9 99;", 5, 495, 0, 1, 2, 3, 4, NONE);
    }

    private static void swapping() {
        promise = 23;
        StatueVotes x = of("t1;p10;p90;s0 0 50;s0 1 5;");
        due("how many", x.swaps(NONE), 1);
        due("the first", x.swaps(0), 1);
        due("no second", x.swaps(1), NONE);
        due("swaps(-2)", x.swaps(-2), NONE);
        due("swaps(least)", x.swaps(LEAST), NONE);
        due("swaps(most)", x.swaps(MOST), NONE);
        x.down(1);
        due("one does not stand", x.swaps(NONE), 0);
        due("both see it already", of("t1;p50;p90;s0 0 50;s0 1 50;").swaps(NONE), 0);
        due("one would not", of("t1;p10;p90;s0 0 50;s0 1 11;").swaps(NONE), 0);
        StatueVotes y = of("t1;p10;p20;p30;p40;s0 3 10;s0 0 20;s0 1 30;s0 2 10;");
        due("how many", y.swaps(NONE), 4);
        due("0 and 1", y.swaps(0), 1);
        due("0 and 2: 2 wants 30", y.swaps(1), 2);
        due("1 and 3", y.swaps(2), 103);
        due("2 and 3", y.swaps(3), 203);
        due("no more", y.swaps(4), NONE);
    }

    private static void closeVotes() {
        promise = 24;
        StatueVotes x = new StatueVotes();
        due("close(0, 0)", x.close(0, 0), 1000000000);
        due("close(1, 0)", x.close(1, 0), 0);
        due("close(60, 100)", x.close(60, 100), 1000000000);
        due("close(1, 1)", x.close(1, 1), 10000000);
        due("close(3, 90)", x.close(3, 90), 729000000);
        due("close(29, 50)", x.close(29, 50), 1);
        due("close(30, 50)", x.close(30, 50), 0);
        due("cut each time", x.close(12, 77), 43439886);
        due("cut each time", x.close(60, 99), 547156620);
        due("close(61, 1)", x.close(61, 1), OUTSIDE);
        due("close(-1, 1)", x.close(-1, 1), OUTSIDE);
        due("close(1, 101)", x.close(1, 101), OUTSIDE);
        due("close(1, -1)", x.close(1, -1), OUTSIDE);
    }

    private static void counting() {
        promise = 25;
        StatueVotes x = of(FOUR);
        due("count(3, 100)", x.count(3, 100), UNKNOWN);
        due("count(-1, 0)", x.count(-1, 0), UNKNOWN);
        due("count(0, 100)", x.count(0, 100), OUTSIDE);
        due("count(0, -1)", x.count(0, -1), OUTSIDE);
        for (int i = 1; i <= 6; i++) due("count", x.count(0, i == 1 ? 99 : 0), i);
        due("a seventh", x.count(0, 0), FULL);
        due("OUTSIDE goes ahead", x.count(0, 100), OUTSIDE);
        due("counts", x.told(11), 6);
        due("nothing to undo", x.told(13), 0);
    }

    private static void likings() {
        promise = 26;
        StatueVotes x = of(FOUR);
        due("all", x.likings(0), 16);
        due("none in each", x.likings(1), 0);
        x.count(0, 3);
        due("walker 0, or 1 and 2", x.likings(0), 4);
        due("none in each", x.likings(1), 0);
        x.count(1, 3);
        due("1 and 2", x.likings(0), 2);
        due("both in each", x.likings(1), 6);
        x.walk(0, 3);
        due("all walk as now", x.likings(0), 4);
        x.undo();
        x.count(1, 3);
        due("told twice", x.likings(0), 2);
        x.count(2, 0);
        due("2 is under plinth 2", x.likings(0), 0);
        due("none", x.likings(1), NONE);
        due("likings(2)", x.likings(2), OUTSIDE);
        due("likings(-1)", x.likings(-1), OUTSIDE);
        StatueVotes y = of("t1;p0;w1 9 0;w1 9 0;w1 9 0;w1 9 0;w1 9 0;w1 9 0;w1 9 0;");
        y.count(0, 63);
        due("all seven", y.likings(1), 127);
        due("one alone parts nothing", y.ladder(), NONE);
        y.tear();
        y.count(0, 0);
        due("the empty set alone", y.likings(0), 1);
        due("nobody in it", y.likings(1), 0);
        due("no walkers: the empty set", of("t1;p0;").likings(0), 1);
    }

    private static void ladders() {
        promise = 27;
        StatueVotes x = of(FOUR);
        due("like ones: the least", x.ladder(), 0);
        x.count(0, 3);
        // {0}, {0, 3}, {1, 2}, {1, 2, 3}: two and two by plinth 1, four by plinth 2
        due("plinth 2", x.ladder(), 2);
        x.count(2, 6);
        due("one alone", x.ladder(), NONE);
        x.count(2, 5);
        due("none at all", x.ladder(), NONE);
        due("nobody walks", of("t1;p0;p0;").ladder(), NONE);
        due("no plinths", of("t1;w0 1 0;").ladder(), NONE);
        due("nobody walks under them", of("t1;p0;p0;w0 1 0;").ladder(), NONE);
        due("by one walker", of("t1;p0;p0;w2 1 0;").ladder(), 1);
        due("1, 1 in two parts of two; 1, 2 in four", of("t1;p0;p0;w3 1 0;w1 1 0;w2 2 0;").ladder(), 1);
    }

    private static void writing() {
        promise = 28;
        StatueVotes x = of(FOUR);
        due("write(4, 0)", x.write(4, 0), UNKNOWN);
        due("write(-1, 0)", x.write(-1, 0), UNKNOWN);
        due("write(0, 3)", x.write(0, 3), UNKNOWN);
        due("write(0, -2)", x.write(0, -2), UNKNOWN);
        for (int i = 1; i <= 15; i++) due("write", x.write(i % 4, i % 4 - 1), i);
        due("a sixteenth", x.write(0, 0), FULL);
        due("UNKNOWN goes ahead", x.write(0, 9), UNKNOWN);
        due("entries", x.told(12), 15);
        due("nothing to undo", x.told(13), 0);
    }

    private static void tearing() {
        promise = 29;
        StatueVotes x = of(FOUR);
        due("nothing", x.tear(), 0);
        x.count(0, 0);
        x.count(0, 0);
        x.write(0, 1);
        x.scrub(0);
        due("both", x.tear(), 3);
        due("again", x.tear(), 0);
        due("counts", x.told(11), 0);
        due("entries", x.told(12), 0);
        due("all else stays", x.told(13), 1);
        due("likings", x.likings(0), 16);
        due("judge", x.judge(), NONE);
    }

    private static void judging() {
        promise = 30;
        StatueVotes x = of(FOUR);
        x.write(0, 0);
        x.write(2, NONE);
        x.write(1, 2);
        x.write(3, 0);
        due("the first", x.judge(), 2);
        x.down(1);
        due("nowhere", x.judge(), 2);
        x.stand(1, 2);
        due("the next", x.judge(), 3);
        x.stand(2, 1);
        due("it stands now", x.judge(), 1);
        x.down(0);
        due("it does not now", x.judge(), 0);
        x.tear();
        x.write(0, NONE);
        due("as it is", x.judge(), NONE);
    }

    private static void seeds() {
        promise = 31;
        StatueVotes x = of(FOUR);
        due("0 at first", x.seed(MOST), 0);
        due("seed(-1)", x.seed(-1), OUTSIDE);
        due("seed(least)", x.seed(LEAST), OUTSIDE);
        due("as it was", x.seed(3), MOST);
        x.drift(1);
        due("drawn", x.seed(MOST), 1163074432);
        x.drift(1);
        // 2147483647 is -1: -1103515245 + 12345 + 2147483648
        due("the greatest", x.seed(0) > 0 ? 1 : 0, 1);
        due("nothing to undo but years", x.told(13), 2);
        StatueVotes y = of("t1;");
        y.seed(MOST);
        y.drift(1);
        due("the greatest", y.seed(0), 1043980748);
    }

    private static void images() {
        promise = 32;
        StatueVotes x = of(FOUR);
        x.year(5);
        x.walk(0, 5);
        x.like(0, 9);
        x.seed(11);
        due("keep(0)", x.keep(0), 1);
        due("nothing to undo", x.undo(), NOT);
        due("keep(2)", x.keep(2), UNKNOWN);
        due("keep(-1)", x.keep(-1), UNKNOWN);
        x.down(0);
        x.scrub(1);
        x.seed(22);
        due("keep(2) leaves it", x.keep(2), UNKNOWN);
        due("two to undo", x.told(13), 2);
        due("keep(1)", x.keep(1), 1);
        promise = 33;
        x.walk(0, 0);
        x.like(0, 0);
        x.year(9);
        x.count(0, 0);
        x.write(0, 0);
        due("goBack(0)", x.goBack(0), 1);
        due("nothing to undo", x.undo(), NOT);
        due("years", x.told(5), 5);
        due("plinth", x.statue(0, 2), 0);
        due("tired", x.statue(1, 3), 20);
        due("elected", x.statue(1, 4), 1);
        due("ways", x.walker(0, 0), 5);
        due("likes", x.walker(0, 2), 9);
        due("seed", x.seed(5), 11);
        due("counts stay", x.told(11), 1);
        due("the book stays", x.told(12), 1);
        x.year(1);
        due("goBack(1)", x.goBack(1), 1);
        due("plinth", x.statue(0, 2), NONE);
        due("tired", x.statue(1, 3), 0);
        due("seed", x.seed(0), 22);
        due("once more", x.goBack(0), 1);
        due("as kept", x.statue(0, 2), 0);
        due("goBack(2)", x.goBack(2), UNKNOWN);
        due("goBack(-1)", x.goBack(-1), UNKNOWN);
        StatueVotes y = of(FOUR);
        y.keep(0);
        y.scrub(0);
        due("not kept", y.goBack(1), NOT);
        due("one to undo", y.told(13), 1);
    }
}
