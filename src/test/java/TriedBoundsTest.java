import java.math.BigInteger;

/** Section 3 of the document and promises 17 to 33: what is tried, counted, drawn and kept, at each bound. */
final class TriedBoundsTest {
    private static final int NONE = Run.NONE, UNKNOWN = Run.UNKNOWN, OUTSIDE = Run.OUTSIDE, NOT = Run.NOT, FULL = Run.FULL, ANY = Run.ANY;
    private static final int LEAST = Integer.MIN_VALUE, MOST = Integer.MAX_VALUE, BILLION = 1000000000;
    private static final String FOUR = "t4;p50;p10;p80;s0 0 40;s2 1 60;s3 9 5;s1 9 70;w1 3 1;w3 2 6;w7 1 9;w4 5 12;";

    private static void sentence(String words) {
        Sentences.sentence(words);
    }

    public static void main(String[] args) {
        standing();
        goingDown();
        margins();
        changes();
        changesOfLikeOnes();
        changesOfAll();
        powers();
        powersOfHalves();
        counts();
        likings();
        ladders();
        mostHave();
        beloved();
        rings();
        places();
        placesOfLikeOnes();
        swaps();
        swapsByNumber();
        waiting();
        close();
        book();
        wrongEntries();
        tearing();
        seeds();
        seedsLeftOver();
        drawsAheadOfYears();
        drawnWalkers();
        drawnStatues();
        drawnScrubs();
        drawsOfNone();
        images();
        imagesNotKept();
        imagesAndUndoing();
        Sentences.end("what is tried");
    }

    private static void standing() {
        sentence("TRIED from now, as nothing else is done; nothing changes by it. STANDING behind n YEARS (0 .. 60): where a STATUE stands; NONE.");
        Run x = Run.of("t9;p0;p0;s3 1 0;s1 0 0;s3 9 0;");
        x.due(1, "standing", 0, 0).due(1, "standing", 0, 60).dueForEach(OUTSIDE, new int[] {-1, 61, LEAST, MOST}, "standing", 0, ANY);
        x.due(0, "standing", 1, 0).due(0, "standing", 1, 29).due(NONE, "standing", 1, 30).due(NONE, "standing", 1, 60);
        x.due(NONE, "standing", 2, 0).due(NONE, "standing", 2, 60);
        x.due(3, "year", 29).due(0, "standing", 1, 0).due(NONE, "standing", 1, 1).due(29, "statue", 1, 3).due(29, "told", 5);
        for (int t = 1; t <= 9; t++) Run.of("t" + t + ";p0;s3 0 0;w1 1 0;").due(0, "standing", 0, t - 1).due(NONE, "standing", 0, t).due(0, "told", 5);
    }

    private static void goingDown() {
        sentence("DOWN: behind how many YEARS (0 .. 100) a STATUE does not stand first (0: it does not now); NONE.");
        // 30 years are the most that can come about: a seated one that all may elect
        Run x = Run.of("t9;p0;p0;s3 1 0;s1 0 0;s3 9 0;");
        x.due(NONE, "goesDown", 0).due(30, "goesDown", 1).due(0, "goesDown", 2).dueForEach(UNKNOWN, new int[] {-1, 3, LEAST, MOST}, "goesDown", ANY);
        x.due(3, "year", 29).due(1, "goesDown", 1).due(1, "year", 1).due(0, "goesDown", 1).due(NONE, "goesDown", 0).due(1, "down", 0).due(0, "goesDown", 0);
        for (int t = 1; t <= 9; t++) Run.of("t" + t + ";p0;s3 0 0;w1 1 0;").due(t, "goesDown", 0).due(0, "statue", 0, 2).due(0, "told", 5);
    }

    private static void margins() {
        sentence("MARGIN of a STATUE: votes for it less those against it, and 1000; NONE: it does not stand.");
        Run x = Run.of(FOUR).due(1002, "statue", 0, 5).due(1001, "statue", 1, 5).due(NONE, "statue", 2, 5).due(NONE, "statue", 3, 5);
        x.due(0, "down", 0).due(NONE, "statue", 0, 5).due(998, "stand", 2, 0).due(998, "statue", 2, 5);
    }

    private static void changes() {
        sentence("a SET of WALKERS each (of like ones the least; 0: it is so already); NONE.");
        Run x = Run.of(FOUR).due(0, "change", 0, 0).due(1, "change", 0, 1).dueForEach(OUTSIDE, new int[] {-1, 2, LEAST, MOST}, "change", 0, ANY);
        x.due(NOT, "change", 2, 0).due(NOT, "change", 2, 1).due(UNKNOWN, "change", 4, 0).due(UNKNOWN, "change", -1, 1);
        Run.of("t1;p0;s3 0 0;").due(0, "change", 0, 0).due(NONE, "change", 0, 1);
        Run.of("t1;p0;s3 0 0;w1 9 1;w0 9 1;").due(0, "change", 0, 0).due(NONE, "change", 0, 1);
        Run.of("t1;p0;s3 0 0;w1 1 0;").due(1, "change", 0, 0).due(0, "change", 0, 1);
        Run.of("t1;p0;s3 0 0;w0 1 0;").due(0, "change", 0, 0).due(1, "change", 0, 1);
        Run.of("t1;p0;s3 0 0;w1 3 1;w1 3 0;").due(0, "change", 0, 0).due(1, "change", 0, 1);
        Run.of("t1;p0;s3 0 0;w1 3 1;w1 4 0;").due(2, "change", 0, 0).due(0, "change", 0, 1);
    }

    private static void changesOfLikeOnes() {
        sentence("the fewest WALKERS who, walking under its PLINTH no more, if they do, or as well, if they do not, would make it STAY now; likewise not STAY:");
        Run.of("t1;p0;s3 0 0;w0 1 0;w0 1 0;w0 1 0;").due(1, "change", 0, 1);
        Run.of("t1;p0;s3 0 0;w0 1 1;w0 1 0;w0 1 0;").due(2, "change", 0, 1);
        Run.of("t1;p0;s3 0 0;w0 1 1;w0 1 1;w0 1 1;w0 1 1;w0 1 1;w0 1 1;w0 1 0;").due(64, "change", 0, 1);
        // 6 would do, too, but 8 is fewer
        Run.of("t1;p0;s3 0 0;w1 3 1;w0 2 0;w0 2 0;w0 4 0;").due(8, "change", 0, 1);
        // of 3 (one no more, one as well) and 6 (both no more)
        Run.of("t1;p0;s3 0 0;w0 1 1;w1 2 0;w1 1 0;").due(3, "change", 0, 0);
        Run elsewhere = Run.of("t1;p0;p0;s3 0 0;w2 1 0;w3 1 1;").due(3, "change", 0, 1).due(3, "plinth", 1, 2);
        elsewhere.due(1001, "statue", 0, 5);
    }

    private static void changesOfAll() {
        sentence("CHANGE, of a STATUE that stands:");
        Run.of("t1;p0;s3 0 0;w1 1 1;w1 1 1;w1 1 1;w1 1 1;w1 1 1;w1 1 1;w0 1 0;").due(127, "change", 0, 1);
        Run.of("t1;p0;s3 0 0;w1 1 0;w1 1 0;w1 1 0;w1 1 0;w1 1 0;w1 1 0;w0 1 1;").due(63, "change", 0, 0);
        Run.of("t1;p0;s3 0 0;w1 1 0;w1 1 0;w1 1 0;w1 1 0;w1 1 0;w1 1 0;w1 1 0;").due(127, "change", 0, 0);
    }

    private static void powers() {
        sentence("`int power(int w, int p, int what)`: POWER: what = 0 orders, 1 SETS (one that does not walk there: 0). UNKNOWN, OUTSIDE.");
        Run x = Run.of(FOUR).due(4, "power", 0, 0, 0).due(3, "power", 0, 0, 1).dueForEach(OUTSIDE, new int[] {-1, 2, LEAST, MOST}, "power", 0, 0, ANY);
        x.due(0, "power", 3, 0, 0).due(0, "power", 3, 0, 1).due(OUTSIDE, "power", 3, 0, 2);
        x.due(UNKNOWN, "power", 4, 0, 0).due(UNKNOWN, "power", 0, 3, 0).due(UNKNOWN, "power", -1, 0, 0).due(UNKNOWN, "power", 0, -1, 0);
        // under plinth 1 walk those of 2 and of 1 votes alone
        x.due(2, "power", 1, 1, 0).due(2, "power", 1, 1, 1).due(0, "power", 2, 1, 0).due(0, "power", 2, 1, 1).due(0, "power", 0, 1, 0);
        Run alone = Run.of("t1;p0;w1 1 0;w0 9 0;").due(1, "power", 0, 0, 0).due(1, "power", 0, 0, 1).due(0, "power", 1, 0, 0);
        alone.due(1, "walk", 0, 0).due(0, "power", 0, 0, 0).due(0, "power", 0, 0, 1);
        Run seven = Run.of("t1;p0;w1 9 0;w1 9 0;w1 9 0;w1 9 0;w1 9 0;w1 9 0;w1 9 0;");
        for (int w = 0; w < 7; w++) seven.due(720, "power", w, 0, 0).due(20, "power", w, 0, 1);
        Run ruler = Run.of("t1;p0;w1 1 0;w1 1 0;w1 1 0;w1 1 0;w1 1 0;w1 1 0;w1 9 0;").due(5040, "power", 6, 0, 0).due(64, "power", 6, 0, 1);
        for (int w = 0; w < 6; w++) ruler.due(0, "power", w, 0, 0).due(0, "power", w, 0, 1);
    }

    private static void powersOfHalves() {
        sentence("if half of all votes of those under it (rounded up) are enough:");
        Run odd = Run.of("t1;p0;w1 3 0;w1 1 0;w1 1 0;").due(6, "power", 0, 0, 0).due(4, "power", 0, 0, 1);
        odd.due(0, "power", 1, 0, 0).due(0, "power", 2, 0, 1);
        Run.of("t1;p0;w1 1 0;w1 1 0;w1 1 0;").due(2, "power", 2, 0, 0).due(2, "power", 2, 0, 1);
        Run.of("t1;p0;w1 2 0;w1 1 0;").due(2, "power", 0, 0, 0).due(2, "power", 0, 0, 1).due(0, "power", 1, 0, 1);
        Run even = Run.of("t1;p0;w1 2 0;w1 1 0;w1 1 0;").due(4, "power", 0, 0, 0).due(3, "power", 0, 0, 1);
        even.due(1, "power", 1, 0, 0).due(1, "power", 1, 0, 1).due(1, "power", 2, 0, 0);
        Run.of("t1;p0;w1 1 0;w1 1 0;").due(1, "power", 0, 0, 0).due(1, "power", 1, 0, 1);
    }

    private static void counts() {
        sentence("COUNTED (6 at most): one unknown statue, carried from plinth to plinth, had v votes (0 .. 99) for it on a PLINTH.");
        int[] not = {-1, 100, LEAST, MOST};
        Run x = Run.of(FOUR).dueForEach(OUTSIDE, not, "count", 0, ANY).due(0, "told", 11).due(1, "count", 0, 0).due(2, "count", 2, 99);
        x.dueForEach(OUTSIDE, not, "count", 0, ANY).due(UNKNOWN, "count", 3, 0).due(UNKNOWN, "count", -1, 0).due(2, "told", 11);
        for (int i = 3; i <= 6; i++) x.due(i, "count", 1, 0);
        x.due(FULL, "count", 0, 0).due(6, "told", 11).dueForEach(OUTSIDE, not, "count", 0, ANY).due(UNKNOWN, "count", 3, 0);
        x.due(6, "tear").due(1, "count", 0, 0);
        // the sixth counts as well
        Run last = Run.of(FOUR);
        for (int i = 1; i <= 5; i++) last.due(i, "count", 0, 6);
        last.due(2, "likings", 0).due(6, "count", 2, 6).due(1, "likings", 0).due(15, "likings", 1).due(FULL, "count", 0, 0).due(1, "likings", 0);
    }

    private static void likings() {
        sentence("LIKINGS: SETS of WALKERS by whom, if just these like it and all walk as now, all that is COUNTED is so: how many; WALKERS in each of them (a SET; NONE: there is none).");
        Run all = Run.of(FOUR).due(16, "likings", 0).due(0, "likings", 1).due(1, "count", 0, 6).due(2, "likings", 0).due(7, "likings", 1);
        all.due(2, "count", 0, 7).due(0, "likings", 0).due(NONE, "likings", 1).dueForEach(OUTSIDE, new int[] {-1, 2, LEAST, MOST}, "likings", ANY);
        Run.of(FOUR).due(1, "count", 0, 0).due(2, "likings", 0).due(0, "likings", 1);
        String seven = "t1;p0;w1 9 0;w1 9 0;w1 9 0;w1 9 0;w1 9 0;w1 9 0;w1 9 0;";
        Run.of(seven).due(128, "likings", 0).due(0, "likings", 1).due(1, "count", 0, 63).due(1, "likings", 0).due(127, "likings", 1);
        Run.of(seven).due(1, "count", 0, 64).due(0, "likings", 0).due(NONE, "likings", 1);
        Run.of(seven).due(1, "count", 0, 54).due(7, "likings", 0).due(0, "likings", 1);
        Run.of(seven).due(1, "count", 0, 62).due(0, "likings", 0).due(NONE, "likings", 1);
        Run.anew().due(1, "likings", 0).due(0, "likings", 1);
        Run.of("t1;p0;").due(1, "likings", 0).due(1, "count", 0, 0).due(1, "likings", 0).due(0, "likings", 1);
        Run.of("t1;p0;").due(1, "count", 0, 1).due(0, "likings", 0).due(NONE, "likings", 1);
        Run now = Run.of("t1;p0;w1 2 0;w0 2 0;").due(1, "count", 0, 2).due(2, "likings", 0).due(1, "likings", 1).due(0, "walk", 1, 1);
        now.due(2, "likings", 0).due(0, "likings", 1).due(1, "walk", 0, 0).due(2, "likings", 0).due(2, "likings", 1).due(1, "walk", 1, 0).due(0, "likings", 0);
    }

    private static void ladders() {
        sentence("LADDER: the PLINTH on which by votes for it these are told apart best: the greatest part that is alike is least; of like ones the least; NONE: none parts them.");
        // 16 sets, at most 4 of which are alike on each of the three
        Run x = Run.of(FOUR).due(0, "ladder").due(1, "count", 0, 3).due(2, "ladder").due(2, "count", 2, 6).due(1, "likings", 0).due(NONE, "ladder");
        x.due(3, "count", 2, 5).due(0, "likings", 0).due(NONE, "ladder");
        Run.anew().due(NONE, "ladder");
        Run.of("t1;p0;").due(NONE, "ladder");
        Run.of("t1;w0 1 0;").due(NONE, "ladder");
        Run.of("t1;p0;p0;w0 1 0;").due(NONE, "ladder");
        Run.of("t1;p0;p0;p0;p0;p0;w16 1 0;").due(4, "ladder");
        Run.of("t1;p0;p0;w3 1 0;").due(0, "ladder");
        Run.of("t1;p0;p0;w3 1 0;w2 1 0;").due(0, "ladder");
        Run.of("t1;p0;p0;w3 1 0;w2 2 0;").due(1, "ladder");
        Run.of("t1;p0;w1 9 0;w1 9 0;w1 9 0;w1 9 0;w1 9 0;w1 9 0;w1 9 0;").due(0, "ladder").due(1, "count", 0, 9).due(7, "likings", 0).due(NONE, "ladder");
        Run.of("t1;p0;w1 9 0;w1 9 0;w1 9 0;w1 9 0;w1 9 0;w1 9 0;w1 9 0;").due(1, "count", 0, 63).due(1, "likings", 0).due(NONE, "ladder");
    }

    private static void mostHave() {
        sentence("MOST HAVE: of two STATUES, 1, if WALKERS who like the one, not the other, have more votes than those who like the other, not the one; 0.");
        Run.of("t1;s0 9 0;s0 9 0;").due(0, "mostHave", 0, 1).due(0, "mostHave", 1, 0);
        Run.of("t1;s0 9 0;s0 9 0;w0 4 1;w0 4 2;").due(0, "mostHave", 0, 1).due(0, "mostHave", 1, 0);
        Run.of("t1;s0 9 0;s0 9 0;w0 5 1;w0 4 2;").due(1, "mostHave", 0, 1).due(0, "mostHave", 1, 0);
        Run.of("t1;s0 9 0;s0 9 0;w0 9 3;w0 1 2;").due(0, "mostHave", 0, 1).due(1, "mostHave", 1, 0);
        Run.of("t1;s0 9 0;s0 9 0;w0 9 3;w0 9 0;").due(0, "mostHave", 0, 1).due(0, "mostHave", 1, 0).due(UNKNOWN, "mostHave", 0, 2).due(UNKNOWN, "mostHave", 2, 0);
    }

    private static void beloved() {
        sentence("BELOVED: the STATUE that MOST HAVE against each other one (one alone is); NONE.");
        Run.anew().due(NONE, "told", 9);
        Run.of("t1;p0;w1 9 0;").due(NONE, "told", 9);
        Run.of("t1;s0 9 0;").due(0, "told", 9);
        Run.of("t1;s0 9 0;w0 9 0;").due(0, "told", 9);
        Run.of("t1;s0 9 0;s0 9 0;").due(NONE, "told", 9);
        Run.of("t1;s0 9 0;s0 9 0;w0 2 1;w0 2 2;").due(NONE, "told", 9);
        Run.of("t1;s0 9 0;s0 9 0;w0 2 1;w0 3 2;").due(1, "told", 9).due(2, "like", 1, 0).due(0, "told", 9);
        Run.of("t1;s0 9 0;s0 9 0;s0 9 0;w0 1 3;").due(NONE, "told", 9);
        Run.of("t1;s0 9 0;s0 9 0;s0 9 0;s0 9 0;s0 9 0;s0 9 0;w0 1 32;").due(5, "told", 9);
    }

    private static void rings() {
        sentence("RINGS: threes of STATUES of which each is had against the next, round: how many.");
        Run.anew().due(0, "told", 10);
        Run.of("t1;s0 9 0;s0 9 0;w0 1 1;").due(0, "told", 10);
        Run.of("t1;s0 9 0;s0 9 0;s0 9 0;w0 1 1;w0 1 2;w0 1 4;").due(0, "told", 10);
        Run.of("t1;s0 9 0;s0 9 0;s0 9 0;w0 3 1;w0 2 2;w0 1 4;").due(0, "told", 10);
        Run.of("t1;s0 9 0;s0 9 0;s0 9 0;w0 1 3;w0 1 6;w0 1 5;").due(0, "told", 10);
    }

    private static void placed(String text, int many, int view, int... of) {
        Run x = Run.of(text).due(many, "places", NONE).due(view, "places", -2);
        for (int s = 0; s < of.length; s++) x.due(of[s], "places", s);
        x.dueForEach(UNKNOWN, new int[] {of.length, -3, LEAST, MOST}, "places", ANY);
    }

    private static void places() {
        sentence("`int places(int s)`: PLACES: s = NONE how many, -2 VIEW together, else the PLINTH of a STATUE; NONE. UNKNOWN.");
        placed("t1;", 0, 0);
        placed("t1;p50;", 0, 0);
        placed("t1;s0 9 0;", 0, 0, NONE);
        placed("t1;p50;s0 9 49;", 1, 50, 0);
        placed("t1;p50;s0 9 50;", 1, 50, 0);
        placed("t1;p50;s0 9 51;", 0, 0, NONE);
        placed("t1;p0;s0 9 0;", 1, 0, 0);
        placed("t1;p99;s0 9 99;", 1, 99, 0);
        placed("t1;p99;p99;p99;p99;p99;s0 9 99;s0 9 99;s0 9 99;s0 9 99;s0 9 99;s0 9 99;", 5, 495, 0, 1, 2, 3, 4, NONE);
        placed("t1;p0;p0;p0;p0;p0;s0 9 0;s0 9 0;s0 9 0;s0 9 0;s0 9 0;s0 9 0;", 5, 0, 0, 1, 2, 3, 4, NONE);
        Run moved = Run.of("t1;p9;s0 9 0;s0 0 0;").due(0, "places", 0).due(NONE, "places", 1).due(0, "down", 1).due(0, "places", 0);
        moved.due(1000, "stand", 0, 0).due(NONE, "places", 1);
        Run fewer = Run.of("t1;p9;p8;s0 9 0;s0 9 0;s0 9 0;s0 9 0;s0 9 0;s0 9 0;").due(2, "places", NONE).due(17, "places", -2);
        for (String text : new String[] {"t1;p9;p8;s0 9 0;s0 9 9;", "t1;p9;p8;s0 9 0;", "t1;p9;p8;"}) {
            int statues = (text.length() - 9) / 7;
            fewer.feed(text).due(2, "capital").due(statues, "places", NONE).due(new int[] {0, 9, 17}[statues], "places", -2);
        }
    }

    private static void placesOfLikeOnes() {
        sentence("the most STATUES; of like ones the most VIEW together; of like ones the first (STATUE by STATUE the lesser PLINTH, none last):");
        placed("t1;p99;p10;s0 9 0;s0 9 11;", 2, 109, 1, 0);
        placed("t1;p99;p10;s0 9 0;s0 9 10;", 2, 109, 0, 1);
        placed("t1;p10;p11;s0 9 0;", 1, 11, 1);
        placed("t1;p10;p10;s0 9 0;", 1, 10, 0);
        placed("t1;p10;s0 9 0;s0 9 0;", 1, 10, 0, NONE);
        placed("t1;p10;s0 9 11;s0 9 0;", 1, 10, NONE, 0);
        placed("t1;p1;p2;p3;p4;p5;s0 9 5;s0 9 4;s0 9 3;s0 9 2;s0 9 1;s0 9 0;", 5, 15, 4, 3, 2, 1, 0, NONE);
        // the third can have the least view alone, so the first two have none or better
        placed("t1;p1;p9;s0 9 2;s0 9 2;s0 9 0;", 2, 10, 1, NONE, 0);
    }

    private static void swap(int due, int view, int want, int view2, int want2) {
        Run.of("t1;p" + view + ";p" + view2 + ";s0 0 " + want + ";s0 1 " + want2 + ";").due(due, "swaps", NONE).due(due == 1 ? 1 : NONE, "swaps", 0);
    }

    private static void swaps() {
        sentence("each of which would see what it wants on the other's PLINTH, and at least one of which does not on its own:");
        swap(1, 10, 50, 90, 5);
        swap(1, 10, 50, 90, 10);
        swap(0, 10, 50, 90, 11);
        swap(1, 10, 90, 90, 5);
        swap(0, 10, 91, 90, 5);
        swap(1, 10, 11, 90, 5);
        swap(0, 10, 10, 90, 5);
        swap(1, 90, 5, 10, 11);
        swap(0, 90, 5, 10, 10);
        swap(0, 50, 50, 50, 50);
        swap(0, 50, 51, 50, 51);
    }

    private static void swapsByNumber() {
        sentence("`int swaps(int i)`: SWAPS: i = NONE how many, else the i-th; NONE.");
        Run.anew().due(0, "swaps", NONE).due(NONE, "swaps", 0);
        // pairs of those that stand; the last two of six
        Run last = Run.of("t1;p10;p90;s0 9 0;s0 9 0;s0 9 0;s0 9 0;s0 0 50;s0 1 5;").due(1, "swaps", NONE).due(405, "swaps", 0).due(NONE, "swaps", 1);
        last.due(1, "down", 5).due(0, "swaps", NONE).due(NONE, "swaps", 0);
        Run x = Run.of("t1;p10;p20;p30;p40;s0 3 10;s0 0 20;s0 1 30;s0 2 10;");
        int[] rising = {1, 2, 103, 203};
        x.due(4, "swaps", NONE);
        for (int i = 0; i < 4; i++) x.due(rising[i], "swaps", i);
        x.dueForEach(NONE, new int[] {4, 5, MOST, -2, -3, LEAST}, "swaps", ANY);
    }

    private static void waiting() {
        sentence("WAITING: PLINTHS (a SET) on which nobody stands.");
        Run.anew().due(0, "told", 7);
        Run.of("t1;").due(0, "told", 7);
        Run.of("t1;p0;p0;p0;p0;p0;").due(31, "told", 7);
        Run x = Run.of("t1;p0;p0;p0;p0;p0;s3 4 0;s3 3 0;s3 2 0;s3 1 0;s3 0 0;").due(0, "told", 7).due(4, "down", 0).due(16, "told", 7);
        x.due(0, "down", 4).due(17, "told", 7).due(1000, "stand", 4, 4).due(1, "told", 7);
    }

    private static void close() {
        sentence("CLOSE: odds that n voters (0 .. 60) of 1 vote each, each for it by q of a hundred (0 .. 100), are all for it: a BILLION times q / 100 each (cut).");
        Run edges = Run.anew().due(BILLION, "close", 0, 0).due(BILLION, "close", 0, 100).due(0, "close", 60, 0).due(BILLION, "close", 60, 100);
        edges.dueForEach(OUTSIDE, new int[] {-1, 61, LEAST, MOST}, "close", ANY, 50).dueForEach(OUTSIDE, new int[] {-1, 101, LEAST, MOST}, "close", 1, ANY);
        edges.due(OUTSIDE, "close", 61, 101).due(OUTSIDE, "close", 0, 101).due(OUTSIDE, "close", -1, 0);
        edges.due(10000000, "close", 1, 1).due(10, "close", 4, 1).due(0, "close", 5, 1).due(1, "close", 29, 50).due(0, "close", 30, 50);
        for (int q = 0; q <= 100; q++) {
            Run x = Run.anew();
            BigInteger odds = BigInteger.valueOf(BILLION);
            for (int n = 0; n <= 60; n++) {
                x.due(odds.intValueExact(), "close", n, q);
                odds = odds.multiply(BigInteger.valueOf(q)).divide(BigInteger.valueOf(100));
            }
        }
    }

    private static void book() {
        sentence("THE BOOK (15 at most) tells where STATUES stand (NONE: nowhere):");
        Run x = Run.of(FOUR).due(0, "told", 12).due(UNKNOWN, "write", 4, 0).due(UNKNOWN, "write", 0, 3).due(UNKNOWN, "write", 0, -2).due(0, "told", 12);
        for (int i = 1; i <= 15; i++) x.due(i, "write", i % 4, i % 4 - 1).due(i, "told", 12);
        x.due(FULL, "write", 0, 0).due(FULL, "write", 3, NONE).due(UNKNOWN, "write", 4, NONE).due(UNKNOWN, "write", 0, 3).due(15, "told", 12);
        x.due(15, "tear").due(1, "write", 0, 0);
    }

    private static void wrongEntries() {
        sentence("WRONG: the first that is otherwise now; NONE.");
        Run x = Run.of(FOUR).due(NONE, "judge");
        for (int i = 1; i <= 14; i++) x.due(i, "write", 0, 0).due(NONE, "judge");
        x.due(15, "write", 2, 2).due(14, "judge").due(FULL, "write", 3, 0).due(14, "judge").due(1004, "stand", 2, 2).due(NONE, "judge");
        x.due(0, "down", 0).due(0, "judge").due(1, "undo").due(NONE, "judge");
        Run nowhere = Run.of(FOUR).due(1, "write", 2, NONE).due(NONE, "judge").due(2, "write", 0, NONE).due(1, "judge");
        nowhere.due(0, "down", 0).due(NONE, "judge").due(998, "stand", 2, 0).due(0, "judge");
        Run.of(FOUR).due(1, "write", 0, 1).due(0, "judge").due(2, "write", 0, 0).due(0, "judge");
    }

    private static void tearing() {
        sentence("`int tear()`: Nothing COUNTED, THE BOOK is empty: how much both had.");
        Run.anew().due(0, "tear");
        Run x = Run.of(FOUR).due(0, "tear").due(1, "count", 0, 0).due(1, "tear").due(0, "tear").due(1, "write", 0, 1).due(1, "tear").due(NONE, "judge");
        for (int i = 1; i <= 6; i++) x.due(i, "count", 0, 7);
        for (int i = 1; i <= 15; i++) x.due(i, "write", 0, 1);
        x.due(0, "scrub", 0).due(21, "tear").due(0, "told", 11).due(0, "told", 12).due(16, "likings", 0).due(NONE, "judge").due(1, "told", 13).due(0, "tear");
    }

    private static void seeds() {
        sentence("`int seed(int v)`: THE SEED becomes v (0 .. 2147483647): what it was. OUTSIDE.");
        Run x = Run.anew().due(OUTSIDE, "seed", -1).due(OUTSIDE, "seed", LEAST).due(0, "seed", MOST).due(OUTSIDE, "seed", -1).due(MOST, "seed", 0);
        x.due(0, "seed", 1).due(1, "seed", MOST - 1).due(MOST - 1, "seed", 0);
    }

    private static final BigInteger TWO_TO_31 = BigInteger.ONE.shiftLeft(31), FACTOR = BigInteger.valueOf(1103515245), MORE = BigInteger.valueOf(12345);

    private static int next(int seed) {
        return BigInteger.valueOf(seed).multiply(FACTOR).add(MORE).mod(TWO_TO_31).intValueExact();
    }

    /** The seed whose next is this one. */
    private static int ahead(int seed) {
        return BigInteger.valueOf(seed).subtract(MORE).multiply(FACTOR.modInverse(TWO_TO_31)).mod(TWO_TO_31).intValueExact();
    }

    /** A seed whose draws of the first of each pair are the second. */
    private static int seedOf(int... pairs) {
        for (int seed = 0; ; seed++) {
            int s = seed;
            boolean fits = true;
            for (int i = 0; fits && i < pairs.length; i += 2) {
                s = next(s);
                fits = s / 65536 % pairs[i] == pairs[i + 1];
            }
            if (fits) return seed;
        }
    }

    private static int behind(int seed, int draws) {
        return draws == 0 ? seed : behind(next(seed), draws - 1);
    }

    private static void seedsLeftOver() {
        sentence("THE SEED (0 at first: each DRAW it becomes it times 1103515245 and 12345, left over by 2 to the 31; the DRAW of n is it / 65536, left over by n)");
        for (int to : new int[] {0, 1, 65535, 65536, 12345, MOST - 1, MOST}) {
            int from = ahead(to);
            Run.of("t1;").due(0, "seed", from).due(0, "drift", 1).due(to, "seed", 0);
        }
        for (int from : new int[] {0, 1, 2, 65535, 65536, 1 << 30, MOST - 1, MOST}) {
            Run.of("t1;").due(0, "seed", from).due(0, "drift", 1).due(next(from), "seed", 0);
            Run.of("t1;").due(0, "seed", from).due(0, "drift", 60).due(behind(from, 60), "seed", 0);
        }
        // 2147483647 / 65536 is 32767: 3 left over by 4; 0 is 0 left over by 4
        Run three = Run.of("t9;p0;w0 1 0;").due(0, "seed", ahead(MOST)).due(0, "drift", 1).due(MOST, "seed", 0).due(0, "walker", 0, 0);
        three.due(0, "seed", ahead(0)).due(0, "drift", 1).due(1, "walker", 0, 0).due(behind(0, 2), "seed", 0);
    }

    private static void drawsAheadOfYears() {
        sentence("n YEARS: ahead of each a DRAW of 4:");
        int nothing = seedOf(4, 3);
        Run.of("t9;p0;s0 0 0;w1 1 1;").due(0, "seed", nothing).due(1, "drift", 1).due(next(nothing), "seed", 0).due(1, "walker", 0, 0).due(3, "statue", 0, 3);
        // the walker comes under the plinth ahead of the election of that year
        int comes = seedOf(4, 0, 1, 0, 1, 0);
        Run.of("t1;p0;s3 0 0;w0 1 0;").due(0, "seed", comes).due(0, "drift", 1).due(1, "walker", 0, 0).due(0, "statue", 0, 4);
        Run.of("t1;p0;s3 0 0;w1 1 0;").due(0, "seed", comes).due(1, "drift", 1).due(0, "walker", 0, 0).due(1, "statue", 0, 4);
        Run.of("t1;p0;s0 0 0;").due(0, "seed", comes).due(1, "drift", 1).due(next(comes), "seed", 0);
        Run once = Run.of(FOUR).due(0, "seed", 5);
        Run each = Run.of(FOUR).due(0, "seed", 5);
        once.make("drift", 60);
        for (int i = 0; i < 60; i++) each.make("drift", 1);
        for (int s = 0; s < 4; s++) for (int what = 2; what < 7; what++) once.due(each.make("statue", s, what), "statue", s, what);
        for (int w = 0; w < 4; w++) once.due(each.make("walker", w, 0), "walker", w, 0);
        once.due(each.make("seed", 0), "seed", 0);
    }

    private static void drawnWalkers() {
        sentence("on 0, if there are WALKERS and PLINTHS, a DRAW of WALKERS, of PLINTHS: that is one more under which it walks, if it was not, else one less;");
        String text = "t9;p0;p0;p0;p0;p0;w0 1 0;w31 1 0;w0 1 0;w31 1 0;w0 1 0;w31 1 0;w0 1 0;";
        for (int w = 0; w < 7; w++) {
            for (int p = 0; p < 5; p++) {
                int seed = seedOf(4, 0, 7, w, 5, p);
                Run x = Run.of(text).due(0, "seed", seed).due(0, "drift", 1).due(behind(seed, 3), "seed", 0);
                for (int o = 0; o < 7; o++) x.due((o % 2 == 1 ? 31 : 0) ^ (o == w ? 1 << p : 0), "walker", o, 0);
            }
        }
    }

    private static void drawnStatues() {
        sentence("on 1, if there are STATUES and PLINTHS, a DRAW of STATUES, of PLINTHS: it STANDS there, if it can;");
        // statue 0 stands on plinth 4, statue 5 on plinth 0
        String text = "t9;p0;p0;p0;p0;p0;s3 4 0;s3 9 0;s3 9 0;s3 9 0;s3 9 0;s3 0 0;";
        for (int s = 0; s < 6; s++) {
            for (int p = 0; p < 5; p++) {
                int seed = seedOf(4, 1, 6, s, 5, p);
                boolean can = s > 0 && s < 5 && p > 0 && p < 4;
                Run x = Run.of(text).due(0, "seed", seed).due(can ? 33 | 1 << s : 33, "drift", 1).due(behind(seed, 3), "seed", 0);
                x.due(s == 0 ? 4 : s == 5 ? 0 : can ? p : NONE, "statue", s, 2).due(4, "statue", 0, 2).due(0, "statue", 5, 2);
            }
        }
    }

    private static void drawnScrubs() {
        sentence("on 2, if there are STATUES, a DRAW of these is SCRUBBED.");
        String text = "t9;p0;p0;p0;p0;p0;s0 0 0;s0 1 0;s0 2 0;s0 3 0;s0 4 0;s0 9 0;";
        for (int s = 0; s < 6; s++) {
            int seed = seedOf(4, 2, 6, s);
            Run x = Run.of(text).due(31, "year", 5).due(0, "seed", seed).due(31, "drift", 1).due(behind(seed, 2), "seed", 0);
            for (int o = 0; o < 5; o++) x.due(o == s ? 3 : 18, "statue", o, 3);
            x.due(0, "statue", 5, 3);
        }
        // one that does not stand is scrubbed, too
        int seed = seedOf(4, 2);
        Run.of("t9;p0;s0 0 0;").due(0, "year", 10).due(0, "seed", seed).due(0, "drift", 1).due(0, "statue", 0, 3);
    }

    private static void drawsOfNone() {
        sentence("if there are WALKERS and PLINTHS");
        String[] without = {"t9;", "t9;p0;", "t9;w0 1 0;", "t9;s0 9 0;w0 1 0;", "t9;p0;s0 0 0;"};
        for (String text : without) Run.of(text).due(0, "seed", seedOf(4, 0)).due(text.endsWith("s0 0 0;") ? 1 : 0, "drift", 1).due(behind(seedOf(4, 0), 1), "seed", 0);
        Run.of("t9;p0;w0 1 0;").due(0, "seed", seedOf(4, 0)).due(0, "drift", 1).due(1, "walker", 0, 0).due(behind(seedOf(4, 0), 3), "seed", 0);
        sentence("if there are STATUES and PLINTHS");
        String[] neither = {"t9;", "t9;p0;", "t9;s0 9 0;", "t9;s0 9 0;w0 1 0;", "t9;p0;w1 1 0;"};
        for (String text : neither) Run.of(text).due(0, "seed", seedOf(4, 1)).due(0, "drift", 1).due(behind(seedOf(4, 1), 1), "seed", 0);
        Run.of("t9;p0;s0 9 0;").due(0, "seed", seedOf(4, 1)).due(1, "drift", 1).due(behind(seedOf(4, 1), 3), "seed", 0);
        sentence("if there are STATUES, a DRAW of these");
        for (String text : new String[] {"t9;", "t9;p0;", "t9;w0 1 0;", "t9;p0;w1 1 0;"}) {
            Run.of(text).due(0, "seed", seedOf(4, 2)).due(0, "drift", 1).due(behind(seedOf(4, 2), 1), "seed", 0);
        }
        Run.of("t9;s0 9 0;").due(0, "seed", seedOf(4, 2)).due(0, "drift", 1).due(behind(seedOf(4, 2), 2), "seed", 0);
    }

    private static void images() {
        sentence("IMAGES 0, 1 keep all of section 2, THE SEED.");
        Run x = Run.of("t2;p0;p0;s0 0 0;s3 9 0;w1 1 1;").due(1, "year", 2).due(1000, "stand", 1, 1).due(1, "walk", 0, 3).due(1, "like", 0, 3).due(0, "seed", 11);
        x.due(1, "keep", 0).due(0, "down", 0).due(1, "down", 1).due(6, "scrub", 0).due(3, "walk", 0, 0).due(3, "like", 0, 0).due(11, "seed", 22).due(0, "year", 5);
        x.due(1, "keep", 1).due(22, "seed", 33).due(1, "count", 0, 1).due(1, "write", 0, 0);
        x.due(1, "goBack", 0).due(2, "told", 5).due(0, "statue", 0, 2).due(1, "statue", 1, 2).due(6, "statue", 0, 3).due(1, "statue", 0, 4);
        x.due(3, "walker", 0, 0).due(3, "walker", 0, 2).due(11, "seed", 44).due(1, "told", 11).due(1, "told", 12).due(NONE, "judge");
        x.due(1, "goBack", 1).due(7, "told", 5).due(0, "told", 6).due(0, "statue", 0, 3).due(0, "walker", 0, 0).due(0, "walker", 0, 2).due(22, "seed", 55).due(0, "judge");
        x.due(1, "goBack", 0).due(1, "keep", 1).due(0, "down", 0).due(1, "goBack", 1).due(0, "statue", 0, 2).due(11, "seed", 0);
    }

    private static void imagesNotKept() {
        sentence("`int goBack(int i)`: What is so becomes IMAGE i (nothing can be undone then): 1. UNKNOWN, NOT: it was not kept.");
        Run.anew().due(NOT, "goBack", 0).due(NOT, "goBack", 1).due(UNKNOWN, "goBack", 2).due(UNKNOWN, "goBack", -1);
        Run x = Run.of("t2;p0;s3 0 0;").due(NOT, "goBack", 0).due(1, "year", 1).due(1, "keep", 1).due(NOT, "goBack", 0).due(1, "goBack", 1);
        x.due(1, "year", 1).feed("x").due(-11, "capital").due(NOT, "goBack", 0).due(1, "told", 13).due(1, "goBack", 1).due(0, "told", 13).due(1, "told", 5);
        x.feed("t2;").due(0, "capital").due(NOT, "goBack", 0).due(NOT, "goBack", 1);
        Run none = Run.anew().due(1, "keep", 0).due(0, "seed", 8).due(1, "goBack", 0).due(0, "seed", 8).due(NOT, "year", 1).due(NOT, "goBack", 1);
        none.due(0, "capital").due(NOT, "goBack", 0);
    }

    private static void imagesAndUndoing() {
        sentence("`int keep(int i)`: IMAGE i becomes what is so (nothing can be undone then): 1. UNKNOWN.");
        Run x = Run.of("t2;p0;s3 0 0;");
        for (int i = 0; i < 17; i++) x.make("year", 1);
        x.due(16, "told", 13).due(UNKNOWN, "keep", 2).due(UNKNOWN, "keep", -1).due(16, "told", 13).due(1, "keep", 0).due(0, "told", 13).due(NOT, "undo").due(17, "told", 5);
        for (int i = 0; i < 3; i++) x.make("year", 1);
        x.due(3, "told", 13).due(UNKNOWN, "goBack", 2).due(NOT, "goBack", 1).due(3, "told", 13).due(1, "goBack", 0).due(0, "told", 13).due(NOT, "undo").due(17, "told", 5);
        x.due(1, "year", 1).due(0, "undo").due(17, "told", 5).due(NOT, "undo");
    }
}
