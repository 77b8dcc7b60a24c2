import java.util.Arrays;

/** The terms of the document: what there is not, what is out of bounds, which refusal comes first, what is behind one. */
final class TermsBoundsTest {
    private static final int NONE = Run.NONE, UNKNOWN = Run.UNKNOWN, OUTSIDE = Run.OUTSIDE, NOT = Run.NOT, FULL = Run.FULL, ANY = Run.ANY;
    private static final int LEAST = Integer.MIN_VALUE, MOST = Integer.MAX_VALUE;

    /** Three plinths, four statues, of which 0 and 1 stand, four walkers. */
    private static final String FOUR = "t4;p50;p10;p80;s0 0 40;s2 1 60;s3 9 5;s1 9 70;w1 3 1;w3 2 6;w7 1 9;w4 5 12;";
    /** As many of all as there may be; statue 5 does not stand. */
    private static final String FULLEST = "t7;p10;p20;p30;p40;p50;s0 0 10;s1 1 20;s2 2 30;s3 3 40;s2 4 60;s3 9 99;"
        + "w31 9 63;w1 1 1;w2 2 2;w4 3 4;w8 4 8;w16 5 16;w0 6 32;";

    private static void sentence(String words) {
        Sentences.sentence(words);
    }

    public static void main(String[] args) {
        constants();
        numbersFromNought();
        unknownPlinths();
        unknownStatues();
        unknownWalkers();
        unknownImages();
        unknownOfFewer();
        unknownWithoutCapital();
        unknownBits();
        oneTwice();
        outside();
        toldWhat();
        plinthWhat();
        statueWhat();
        walkerWhat();
        unknownFirst();
        outsideAheadOfNot();
        outsideAheadOfFull();
        refusedChangesNothing();
        cutTowardsNought();
        fiveHundredAndTwelve();
        Sentences.end("the terms");
    }

    private static void same(int got, int want) {
        Sentences.asked();
        if (got != want) Sentences.wrong("it is " + got + ", due is " + want);
    }

    private static void constants() {
        sentence("They are far below all that is counted: -1000000001 and on.");
        same(StatueVotes.NONE, -1);
        same(StatueVotes.UNKNOWN, -1000000001);
        same(StatueVotes.OUTSIDE, -1000000002);
        same(StatueVotes.NOT, -1000000003);
        same(StatueVotes.FULL, -1000000004);
    }

    private static void numbersFromNought() {
        sentence("What has a number has it from 0 on, as it comes.");
        Run x = Run.of(FULLEST);
        int[] wants = {10, 20, 30, 40, 60, 99};
        int[] votes = {9, 1, 2, 3, 4, 5, 6};
        for (int p = 0; p < 5; p++) x.due(10 + 10 * p, "plinth", p, 0);
        for (int s = 0; s < 6; s++) x.due(wants[s], "statue", s, 1);
        for (int w = 0; w < 7; w++) x.due(votes[w], "walker", w, 1);
        x.due(5, "told", 1).due(6, "told", 2).due(7, "told", 3);
    }

    private static void unknownPlinths() {
        sentence("UNKNOWN (a PLINTH, STATUE, WALKER, IMAGE that there is not;");
        int[] not = {-1, 5, 6, 9, 31, LEAST, MOST};
        Run x = Run.of(FULLEST);
        x.due(50, "plinth", 4, 0).dueForEach(UNKNOWN, not, "plinth", ANY, 0);
        // under plinth 4 walk those of 9 and of 5 votes: 7 are enough
        x.due(2, "power", 0, 4, 0).dueForEach(UNKNOWN, not, "power", 0, ANY, 0);
        x.due(4, "down", 4).dueForEach(UNKNOWN, not, "stand", 5, ANY).due(1004, "stand", 5, 4);
        x.due(1, "count", 4, 0).dueForEach(UNKNOWN, not, "count", ANY, 0).due(1, "told", 11);
        int[] notInBook = {-2, 5, 6, 9, 31, LEAST, MOST};
        x.due(1, "write", 0, 4).due(2, "write", 0, NONE).dueForEach(UNKNOWN, notInBook, "write", 0, ANY).due(2, "told", 12);
    }

    private static void unknownStatues() {
        sentence("a PLINTH, STATUE, WALKER, IMAGE that there is not");
        int[] not = {-1, 6, 7, 9, 32, LEAST, MOST};
        Run x = Run.of(FULLEST);
        x.due(99, "statue", 5, 1).dueForEach(UNKNOWN, not, "statue", ANY, 1);
        x.due(NONE, "standing", 5, 0).dueForEach(UNKNOWN, not, "standing", ANY, 0);
        x.due(0, "goesDown", 5).dueForEach(UNKNOWN, not, "goesDown", ANY);
        x.due(NOT, "change", 5, 0).due(0, "change", 4, 0).dueForEach(UNKNOWN, not, "change", ANY, 0);
        x.due(1, "mostHave", 5, 4).dueForEach(UNKNOWN, not, "mostHave", 5, ANY).dueForEach(UNKNOWN, not, "mostHave", ANY, 5);
        x.due(NONE, "places", 5).due(4, "places", NONE).due(140, "places", -2);
        x.dueForEach(UNKNOWN, new int[] {-3, -4, 6, 7, LEAST, MOST}, "places", ANY);
        x.due(NOT, "down", 5).dueForEach(UNKNOWN, not, "down", ANY);
        x.due(0, "scrub", 5).dueForEach(UNKNOWN, not, "scrub", ANY).due(1, "told", 13);
        x.due(NOT, "stand", 5, 0).dueForEach(UNKNOWN, not, "stand", ANY, 0);
        x.due(1, "write", 5, NONE).dueForEach(UNKNOWN, not, "write", ANY, NONE);
    }

    private static void unknownWalkers() {
        sentence("STATUE, WALKER, IMAGE that there is not");
        int[] not = {-1, 7, 8, 9, 32, LEAST, MOST};
        Run x = Run.of(FULLEST);
        x.due(6, "walker", 6, 1).dueForEach(UNKNOWN, not, "walker", ANY, 1);
        x.due(0, "power", 6, 0, 0).dueForEach(UNKNOWN, not, "power", ANY, 0, 0);
        x.due(0, "walk", 6, 0).dueForEach(UNKNOWN, not, "walk", ANY, 0);
        x.due(32, "like", 6, 0).dueForEach(UNKNOWN, not, "like", ANY, 0).due(2, "told", 13);
    }

    private static void unknownImages() {
        sentence("WALKER, IMAGE that there is not");
        int[] not = {-1, 2, 3, LEAST, MOST};
        Run x = Run.of(FULLEST);
        x.dueForEach(UNKNOWN, not, "goBack", ANY).dueForEach(NOT, new int[] {0, 1}, "goBack", ANY);
        x.due(1, "keep", 0).due(1, "keep", 1).dueForEach(UNKNOWN, not, "keep", ANY);
        x.dueForEach(UNKNOWN, not, "goBack", ANY).dueForEach(1, new int[] {0, 1}, "goBack", ANY);
    }

    private static void unknownOfFewer() {
        sentence("UNKNOWN (a PLINTH, STATUE, WALKER, IMAGE that there is not; bits of such;");
        for (int n = 1; n <= 4; n++) {
            String text = "t1;" + "p1;".repeat(n) + "s0 9 0;".repeat(n) + "w0 1 0;".repeat(n);
            int all = (1 << n) - 1;
            Run x = Run.of(text);
            x.due(1, "plinth", n - 1, 0).due(UNKNOWN, "plinth", n, 0);
            x.due(0, "statue", n - 1, 0).due(UNKNOWN, "statue", n, 0);
            x.due(1, "walker", n - 1, 1).due(UNKNOWN, "walker", n, 1);
            x.due(0, "walk", n - 1, all).due(UNKNOWN, "walk", n - 1, all + 1).due(UNKNOWN, "walk", n, all);
            x.due(0, "like", n - 1, all).due(UNKNOWN, "like", n - 1, all + 1).due(UNKNOWN, "like", n, all);
            x.due(UNKNOWN, "stand", n - 1, n).due(UNKNOWN, "stand", n, n - 1).due(1001, "stand", n - 1, n - 1);
            x.due(1, "count", n - 1, 0).due(UNKNOWN, "count", n, 0);
            x.due(1, "write", n - 1, n - 1).due(UNKNOWN, "write", n - 1, n).due(UNKNOWN, "write", n, n - 1);
        }
    }

    private static void unknownWithoutCapital() {
        sentence("No CAPITAL.");
        Run x = Run.anew();
        x.due(UNKNOWN, "plinth", 0, 0).due(UNKNOWN, "statue", 0, 0).due(UNKNOWN, "walker", 0, 0).due(UNKNOWN, "stand", 0, 0);
        x.due(UNKNOWN, "down", 0).due(UNKNOWN, "scrub", 0).due(UNKNOWN, "walk", 0, 0).due(UNKNOWN, "like", 0, 0);
        x.due(UNKNOWN, "standing", 0, 0).due(UNKNOWN, "goesDown", 0).due(UNKNOWN, "change", 0, 0).due(UNKNOWN, "power", 0, 0, 0);
        x.due(UNKNOWN, "mostHave", 0, 1).due(UNKNOWN, "places", 0).due(UNKNOWN, "count", 0, 0).due(UNKNOWN, "write", 0, NONE);
        x.due(0, "places", NONE).due(0, "places", -2).due(0, "swaps", NONE).due(NONE, "swaps", 0).due(NONE, "ladder");
        x.due(1, "likings", 0).due(0, "likings", 1).due(0, "tear").due(NONE, "judge").due(NOT, "undo");
    }

    private static void unknownBits() {
        sentence("bits of such;");
        Run x = Run.of(FOUR);
        x.due(1, "walk", 0, 7).dueForEach(UNKNOWN, new int[] {8, 9, 15, 16, 1 << 30, MOST, -1, -8, LEAST, LEAST + 1}, "walk", 0, ANY);
        x.due(7, "walker", 0, 0).due(7, "walk", 0, 0).due(0, "walker", 0, 0);
        x.due(1, "like", 0, 15).dueForEach(UNKNOWN, new int[] {16, 17, 31, 32, 1 << 30, MOST, -1, -16, LEAST, LEAST + 1}, "like", 0, ANY);
        x.due(15, "walker", 0, 2).due(15, "like", 0, 0).due(0, "walker", 0, 2).due(4, "told", 13);
        Run full = Run.of(FULLEST);
        full.due(0, "walk", 6, 31).due(UNKNOWN, "walk", 6, 32).due(32, "like", 6, 63).due(UNKNOWN, "like", 6, 64);
        Run none = Run.of("t1;w0 1 0;");
        none.due(0, "walk", 0, 0).due(UNKNOWN, "walk", 0, 1).due(0, "like", 0, 0).due(UNKNOWN, "like", 0, 1).due(2, "told", 13);
    }

    private static void oneTwice() {
        sentence("one twice, where two are asked)");
        Run x = Run.of(FULLEST);
        for (int s = 0; s < 6; s++) x.due(UNKNOWN, "mostHave", s, s);
        // liked by 10, 11, 12, 13, 14, 15 votes
        x.due(0, "mostHave", 0, 1).due(1, "mostHave", 1, 0).due(0, "mostHave", 4, 5).due(1, "mostHave", 5, 4);
        x.due(1, "count", 0, 1).due(2, "count", 0, 1).due(1, "write", 0, 0).due(2, "write", 0, 0);
    }

    private static void outside() {
        sentence("OUTSIDE (another number out of its bounds)");
        Run x = Run.of(FOUR);
        x.due(0, "change", 0, 0).due(1, "change", 0, 1).dueForEach(OUTSIDE, new int[] {-1, 2, LEAST, MOST}, "change", 0, ANY);
        x.due(4, "power", 0, 0, 0).due(3, "power", 0, 0, 1).dueForEach(OUTSIDE, new int[] {-1, 2, LEAST, MOST}, "power", 0, 0, ANY);
        x.due(16, "likings", 0).due(0, "likings", 1).dueForEach(OUTSIDE, new int[] {-1, 2, LEAST, MOST}, "likings", ANY);
        x.due(0, "seed", 0).due(0, "seed", MOST).dueForEach(OUTSIDE, new int[] {-1, LEAST}, "seed", ANY).due(MOST, "seed", 0);
    }

    private static final int[] NEITHER = {-1, LEAST, MOST};

    /** Each answer from what = 0 on, and no more on either side. */
    private static void whole(Run x, int[] answers, String name, int... ahead) {
        int[] numbers = Arrays.copyOf(ahead, ahead.length + 1);
        for (int what = 0; what < answers.length; what++) {
            numbers[ahead.length] = what;
            x.due(answers[what], name, numbers.clone());
        }
        numbers[ahead.length] = ANY;
        x.dueForEach(OUTSIDE, NEITHER, name, numbers).dueForEach(OUTSIDE, new int[] {answers.length}, name, numbers);
    }

    private static void toldWhat() {
        sentence("11 COUNTS, 12 entries of THE BOOK, 13 how many can be undone. OUTSIDE.");
        whole(Run.anew(), new int[] {0, 0, 0, 0, 0, 0, 0, 0, 0, NONE, 0, 0, 0, 0}, "told");
        whole(Run.of(FULLEST), new int[] {7, 5, 6, 7, 0, 0, 31, 0, 0, 5, 0, 0, 0, 0}, "told");
        Run most = Run.of(FULLEST).feed(" ".repeat(240));
        for (int i = 0; i < 6; i++) most.make("count", 0, 0);
        for (int i = 0; i < 15; i++) most.make("write", 0, 0);
        for (int i = 0; i < 16; i++) most.make("down", i % 5);
        for (int i = 0; i < 16; i++) most.make("scrub", i % 6);
        whole(most, new int[] {7, 5, 6, 7, 240, 0, 0, 31, 0, 5, 0, 6, 15, 16}, "told");
    }

    private static void plinthWhat() {
        sentence("Of a PLINTH: what = 0 VIEW, 1 who stands there (NONE), 2 WALKERS under it (a SET), 3 their votes. UNKNOWN, OUTSIDE.");
        whole(Run.of(FULLEST), new int[] {10, 0, 3, 10}, "plinth", 0);
        whole(Run.of(FULLEST), new int[] {50, 4, 33, 14}, "plinth", 4);
        whole(Run.of("t1;p0;"), new int[] {0, NONE, 0, 0}, "plinth", 0);
        whole(Run.of("t1;p99;" + "w1 9 0;".repeat(7)), new int[] {99, NONE, 127, 63}, "plinth", 0);
    }

    private static void statueWhat() {
        sentence("Of a STATUE: what = 0 KIND, 1 the VIEW it wants, 2 its PLINTH (NONE), 3 TIRED, 4 how often ELECTED, 5 MARGIN (NONE), 6 who likes it (a SET of WALKERS). UNKNOWN, OUTSIDE.");
        whole(Run.of(FULLEST), new int[] {0, 10, 0, 0, 0, 1010, 3}, "statue", 0);
        whole(Run.of(FULLEST), new int[] {2, 60, 4, 0, 0, 1014, 33}, "statue", 4);
        whole(Run.of(FULLEST), new int[] {3, 99, NONE, 0, 0, NONE, 65}, "statue", 5);
        whole(Run.of("t1;s0 9 0;"), new int[] {0, 0, NONE, 0, 0, NONE, 0}, "statue", 0);
        whole(Run.of("t1;s0 9 0;" + "w0 1 1;".repeat(7)), new int[] {0, 0, NONE, 0, 0, NONE, 127}, "statue", 0);
    }

    private static void walkerWhat() {
        sentence("Of a WALKER: what = 0 PLINTHS (a SET), 1 votes, 2 whom one likes (a SET of STATUES). UNKNOWN, OUTSIDE.");
        whole(Run.of(FULLEST), new int[] {31, 9, 63}, "walker", 0);
        whole(Run.of(FULLEST), new int[] {0, 6, 32}, "walker", 6);
        whole(Run.of("t1;w0 1 0;"), new int[] {0, 1, 0}, "walker", 0);
    }

    private static void unknownFirst() {
        sentence("REFUSALS, of several the first in this order: UNKNOWN");
        Run x = Run.of(FOUR);
        // and OUTSIDE
        x.due(UNKNOWN, "plinth", 3, 4).due(UNKNOWN, "plinth", -1, -1).due(UNKNOWN, "statue", 4, 7).due(UNKNOWN, "walker", 4, 3);
        x.due(UNKNOWN, "standing", 4, 61).due(UNKNOWN, "standing", -1, -1).due(UNKNOWN, "change", 4, 2);
        x.due(UNKNOWN, "power", 4, 0, 2).due(UNKNOWN, "power", 0, 3, 2).due(UNKNOWN, "power", 4, 3, -1).due(UNKNOWN, "count", 3, 100);
        // and NOT
        x.due(UNKNOWN, "stand", 0, 3).due(UNKNOWN, "stand", 4, 0).due(UNKNOWN, "stand", -1, 1).due(UNKNOWN, "goBack", 2);
        // and FULL
        for (int i = 1; i <= 6; i++) x.due(i, "count", 0, 0);
        for (int i = 1; i <= 15; i++) x.due(i, "write", 0, 0);
        x.due(UNKNOWN, "count", 3, 0).due(UNKNOWN, "count", 3, 100).due(FULL, "count", 2, 0);
        x.due(UNKNOWN, "write", 4, 0).due(UNKNOWN, "write", 0, 3).due(UNKNOWN, "write", 0, -2).due(FULL, "write", 3, NONE);
    }

    private static void outsideAheadOfNot() {
        sentence("OUTSIDE (another number out of its bounds), NOT (not now, as told)");
        Run none = Run.anew();
        none.due(OUTSIDE, "year", 0).due(NOT, "year", 1).due(NOT, "year", 60).due(OUTSIDE, "year", 61);
        none.due(OUTSIDE, "drift", 0).due(NOT, "drift", 1).due(NOT, "drift", 60).due(OUTSIDE, "drift", 61);
        Run x = Run.of(FOUR);
        x.due(OUTSIDE, "change", 2, -1).due(NOT, "change", 2, 0).due(NOT, "change", 2, 1).due(OUTSIDE, "change", 2, 2);
    }

    private static void outsideAheadOfFull() {
        sentence("NOT (not now, as told), FULL.");
        Run text = Run.anew().feed(" ".repeat(240));
        text.due(OUTSIDE, "feed", -1).due(FULL, "feed", 0).due(FULL, "feed", 255).due(OUTSIDE, "feed", 256);
        Run counts = Run.of(FOUR);
        for (int i = 1; i <= 6; i++) counts.due(i, "count", 0, 0);
        counts.due(OUTSIDE, "count", 0, -1).due(FULL, "count", 0, 0).due(FULL, "count", 0, 99).due(OUTSIDE, "count", 0, 100);
        Run years = Run.of("t7;p0;s3 0 0;");
        for (int i = 0; i < 151; i++) years.make("year", 60);
        for (String name : new String[] {"year", "drift"}) {
            years.due(OUTSIDE, name, 0).due(FULL, name, 1).due(FULL, name, 60).due(OUTSIDE, name, 61);
        }
    }

    /** All that can be changed has been, so that a refused call that changes anything is seen behind it. */
    private static Run worn() {
        Run x = Run.of(FOUR);
        x.make("seed", 99);
        x.make("keep", 0);
        x.make("year", 9);
        x.make("stand", 3, 2);
        x.make("scrub", 1);
        x.make("walk", 0, 6);
        x.make("like", 3, 15);
        x.make("count", 1, 2);
        x.make("write", 0, 0);
        return x.feed("t1;p");
    }

    private static void refusedChangesNothing() {
        sentence("What is refused changes nothing.");
        int[] at = {4, 3, 4, 4, 4, 9, 9, 2, 1, 0, 0, 1, 1, 5};
        Run x = worn();
        x.due(OUTSIDE, "feed", 256).due(UNKNOWN, "stand", 4, 1).due(UNKNOWN, "stand", 2, 3).due(NOT, "stand", 2, 2).due(NOT, "stand", 3, 1);
        x.due(UNKNOWN, "down", 4).due(NOT, "down", 2).due(UNKNOWN, "scrub", 4).due(UNKNOWN, "walk", 0, 8).due(UNKNOWN, "walk", 4, 0);
        x.due(UNKNOWN, "like", 0, 16).due(UNKNOWN, "like", 4, 0).due(OUTSIDE, "year", 61).due(OUTSIDE, "year", 0).due(OUTSIDE, "drift", 61);
        x.due(UNKNOWN, "count", 3, 1).due(OUTSIDE, "count", 0, 100).due(UNKNOWN, "write", 4, 0).due(UNKNOWN, "write", 0, 3);
        x.due(OUTSIDE, "seed", -1).due(UNKNOWN, "keep", 2).due(UNKNOWN, "goBack", 2).due(NOT, "goBack", 1);
        for (int what = 0; what < 14; what++) x.due(at[what], "told", what);
        x.due(99, "seed", 99);
        Run full = worn();
        for (int i = 2; i <= 6; i++) full.make("count", 0, 0);
        for (int i = 2; i <= 15; i++) full.make("write", 1, 1);
        full.due(FULL, "count", 0, 1).due(FULL, "write", 0, 0).due(6, "told", 11).due(15, "told", 12);
        Run undone = worn();
        for (int i = 4; i >= 0; i--) undone.due(i, "undo");
        undone.due(NOT, "undo").due(0, "told", 5).due(4, "told", 4).due(1, "told", 11);
        Run letters = Run.anew().feed(" ".repeat(236) + "t4;p");
        letters.due(FULL, "feed", '1').due(OUTSIDE, "feed", -1).due(-11, "capital").due(240, "fault");
        Run late = Run.of("t7;p0;s3 0 0;");
        for (int i = 0; i < 151; i++) late.make("year", 60);
        late.due(FULL, "year", 1).due(FULL, "drift", 1).due(16, "told", 13).due(9060, "told", 5).due(0, "seed", 0).due(15, "undo");
        Run none = Run.anew();
        none.due(NOT, "year", 1).due(NOT, "drift", 1).due(NOT, "undo").due(NOT, "goBack", 0).due(0, "told", 13).due(0, "seed", 0);
    }

    private static void cutTowardsNought() {
        sentence("/ cuts towards 0.");
        Run x = Run.of("t1;p0;w1 1 0;w1 1 0;w1 1 0;");
        // 960596010 and then 950990049.9, 941480148.51
        x.due(960596010, "close", 4, 99).due(950990049, "close", 5, 99).due(941480148, "close", 6, 99);
        // 3 votes: 2 are enough
        x.due(2, "power", 0, 0, 1).due(2, "power", 0, 0, 0);
    }

    private static void fiveHundredAndTwelve() {
        sentence("An object is used for at most 512 calls after it has been made; what later calls answer is free.");
        Run years = Run.of("t7;p0;s3 0 0;");
        while (years.size() < 511) years.due(1, "year", 1);
        years.due(497, "told", 5);
        Run elected = Run.of("t7;p0;s3 0 0;");
        while (elected.size() < 511) elected.due(1, "drift", 1);
        elected.due(71, "statue", 0, 4);
        Run letters = Run.anew();
        while (letters.size() < 509) letters.make("feed", ' ');
        letters.due(FULL, "feed", ' ').due(0, "capital").due(1, "feed", ' ');
        Run undone = Run.of(FOUR);
        while (undone.size() < 495) undone.make("scrub", undone.size() % 4);
        for (int i = 15; i >= 0; i--) undone.due(i, "undo");
        undone.due(NOT, "undo");
    }
}
