/** Section 2 of the document and promises 9 to 16: tired by how much, down when, asked when, undone how far. */
final class YearsBoundsTest {
    private static final int NONE = Run.NONE, UNKNOWN = Run.UNKNOWN, OUTSIDE = Run.OUTSIDE, NOT = Run.NOT, FULL = Run.FULL, ANY = Run.ANY;
    private static final int LEAST = Integer.MIN_VALUE, MOST = Integer.MAX_VALUE;
    /** Nobody walks, so that all are elected. */
    private static final String POINTING = "t9;p0;s0 0 0;", SEATED = "t9;p0;s1 0 0;", WAITING = "t9;p0;s3 0 0;";
    private static final String MOUNTED = "t9;p1;s2 0 1;", MOUNTED_LOW = "t9;p0;s2 0 1;";

    private static void sentence(String words) {
        Sentences.sentence(words);
    }

    public static void main(String[] args) {
        oneOnAPlinth();
        tiredAtFirst();
        tiredMost();
        tiredByKind();
        viewsBelowWants();
        othersRest();
        tooTired();
        putUpTooTired();
        terms();
        votes();
        stayingEven();
        elections();
        elected();
        tiredAheadOfElections();
        stands();
        getsDown();
        scrubbed();
        waysAndLikes();
        howManyYears();
        lastYears();
        undone();
        undoneLost();
        undoneNot();
        Sentences.end("the years");
    }

    private static void oneOnAPlinth() {
        sentence("On a PLINTH stands one STATUE, or nobody.");
        Run x = Run.of("t9;p0;p0;s3 1 0;s3 9 0;s3 9 0;");
        x.due(NONE, "plinth", 0, 1).due(0, "plinth", 1, 1).due(NOT, "stand", 1, 1).due(1000, "stand", 1, 0).due(1, "plinth", 0, 1);
        x.due(NOT, "stand", 2, 0).due(NOT, "stand", 2, 1).due(3, "told", 6).due(0, "told", 7);
    }

    private static void tiredAtFirst() {
        sentence("Each is TIRED by 0 (at first) to 99.");
        Run x = Run.of("t9;p0;s0 0 0;s1 9 0;");
        x.due(0, "statue", 0, 3).due(0, "statue", 1, 3).due(1, "year", 1).due(3, "statue", 0, 3).due(0, "statue", 1, 3);
    }

    /** One that is put up again and again is more tired each year, though it gets down at once. */
    private static Run wornOut(String text, int years, int tired, int step, int times) {
        Run x = Run.of(text).due(0, "year", years).due(tired, "statue", 0, 3);
        for (int i = 1; i <= times; i++) x.due(1000, "stand", 0, 0).due(0, "year", 1).due(Math.min(99, tired + i * step), "statue", 0, 3);
        return x;
    }

    private static void tiredMost() {
        sentence("0 (at first) to 99");
        wornOut(SEATED, 30, 30, 1, 71).due(0, "year", 1).due(94, "statue", 0, 3);
        Run x = wornOut(POINTING, 10, 30, 3, 24).due(99, "statue", 0, 3).due(0, "year", 1).due(94, "statue", 0, 3);
        x.due(1000, "stand", 0, 0).due(0, "year", 1).due(97, "statue", 0, 3);
        x.due(1000, "stand", 0, 0).due(0, "year", 1).due(99, "statue", 0, 3);
        wornOut(MOUNTED, 15, 30, 2, 36);
        wornOut(MOUNTED_LOW, 8, 32, 4, 18).due(99, "scrub", 0).due(0, "statue", 0, 3);
    }

    private static void tiredByKind() {
        sentence("each STATUE that stands is as much more TIRED, by KIND: 0 (pointing) 3; 1 (seated) 1; 2 (mounted) 2, 4 if VIEW of its PLINTH is below what it wants; 3 (waiting) 0;");
        int[] more = {3, 1, 4, 0};
        for (int kind = 0; kind < 4; kind++) {
            Run x = Run.of("t9;p49;s" + kind + " 0 50;");
            for (int year = 1; year <= 7; year++) x.due(1, "year", 1).due(year * more[kind], "statue", 0, 3);
        }
        int[] less = {3, 1, 2, 0};
        for (int kind = 0; kind < 4; kind++) {
            Run x = Run.of("t9;p50;s" + kind + " 0 50;");
            for (int year = 1; year <= 7; year++) x.due(1, "year", 1).due(year * less[kind], "statue", 0, 3);
        }
    }

    private static void viewsBelowWants() {
        sentence("4 if VIEW of its PLINTH is below what it wants;");
        int[][] all = {{49, 50, 4}, {50, 50, 2}, {51, 50, 2}, {0, 0, 2}, {0, 1, 4}, {98, 99, 4}, {99, 99, 2}, {99, 0, 2}, {0, 99, 4}};
        for (int[] one : all) Run.of("t9;p" + one[0] + ";s2 0 " + one[1] + ";").due(1, "year", 1).due(one[2], "statue", 0, 3);
        Run moved = Run.of("t9;p10;p20;s2 0 15;").due(1, "year", 1).due(4, "statue", 0, 3);
        moved.due(0, "down", 0).due(1000, "stand", 0, 1).due(1, "year", 1).due(6, "statue", 0, 3);
    }

    private static void othersRest() {
        sentence("all others are 5 less TIRED (0 at least).");
        for (int tired = 1; tired <= 11; tired++) {
            Run x = Run.of(SEATED).due(1, "year", tired).due(tired, "statue", 0, 3).due(0, "down", 0).due(tired, "statue", 0, 3);
            x.due(0, "year", 1).due(Math.max(0, tired - 5), "statue", 0, 3);
            x.due(0, "year", 1).due(Math.max(0, tired - 10), "statue", 0, 3);
        }
        Run.of("t9;p0;s0 9 0;").due(0, "year", 60).due(0, "statue", 0, 3);
    }

    private static void tooTired() {
        sentence("Then, STATUE by STATUE, one that is TIRED by 30 or more GETS DOWN.");
        Run.of(SEATED).due(1, "year", 29).due(29, "statue", 0, 3).due(0, "statue", 0, 2).due(0, "year", 1).due(30, "statue", 0, 3).due(NONE, "statue", 0, 2);
        Run.of(POINTING).due(1, "year", 9).due(27, "statue", 0, 3).due(0, "year", 1).due(30, "statue", 0, 3);
        Run.of(MOUNTED).due(1, "year", 14).due(28, "statue", 0, 3).due(0, "year", 1).due(30, "statue", 0, 3);
        Run.of(MOUNTED_LOW).due(1, "year", 7).due(28, "statue", 0, 3).due(0, "year", 1).due(32, "statue", 0, 3);
        Run.of(WAITING).due(1, "year", 60).due(1, "year", 60).due(0, "statue", 0, 3);
        Run.of("t9;p0;p0;p0;s0 0 0;s1 1 0;s0 2 0;").due(7, "year", 9).due(2, "year", 1).due(30, "statue", 0, 3).due(30, "statue", 2, 3);
        // 28 and 3 are 31; 29 and 1 are 30
        Run.of(POINTING).due(0, "year", 10).due(0, "year", 1).due(25, "statue", 0, 3).due(1000, "stand", 0, 0)
            .due(1, "year", 1).due(28, "statue", 0, 3).due(0, "year", 1).due(31, "statue", 0, 3);
        Run.of(SEATED).due(0, "year", 31).due(25, "statue", 0, 3).due(1000, "stand", 0, 0)
            .due(1, "year", 4).due(29, "statue", 0, 3).due(0, "year", 1).due(30, "statue", 0, 3);
    }

    private static void putUpTooTired() {
        sentence("STANDS: a STATUE that does not stand comes on a PLINTH without anybody.");
        Run x = Run.of(POINTING).due(0, "year", 10).due(1000, "stand", 0, 0).due(1, "told", 6).due(30, "statue", 0, 3);
        x.due(1, "goesDown", 0).due(0, "standing", 0, 0).due(NONE, "standing", 0, 1).due(0, "year", 1).due(33, "statue", 0, 3);
    }

    private static void terms() {
        sentence("YEARS (0 at first) are one more; if T goes into them without rest, there is an ELECTION.");
        for (int t = 1; t <= 9; t++) {
            Run gone = Run.of("t" + t + ";p0;s3 0 0;w1 1 0;").due(0, "told", 5).due(1, "told", 8);
            for (int year = 1; year <= t; year++) gone.due(year < t ? 1 : 0, "year", 1).due(year, "told", 5);
            Run on = Run.of("t" + t + ";p0;s3 0 0;");
            for (int year = 1; year <= 20; year++) on.due(1, "year", 1).due(year / t, "statue", 0, 4);
            on.due(1, "year", 60).due(80 / t, "statue", 0, 4).due(80, "told", 5);
        }
    }

    private static void votes() {
        sentence("of WALKERS under its PLINTH those who like it vote for it, the others against, each with all votes of that WALKER.");
        Run.of("t1;p0;p0;s3 0 0;s3 1 0;w1 9 1;w1 2 0;w1 3 2;w2 7 1;w0 8 1;").due(1004, "statue", 0, 5).due(993, "statue", 1, 5).due(2, "told", 8);
        Run.of("t1;p0;s3 0 0;" + "w1 9 1;".repeat(7)).due(1063, "statue", 0, 5).due(0, "told", 8);
        Run.of("t1;p0;s3 0 0;" + "w1 9 0;".repeat(7)).due(937, "statue", 0, 5).due(1, "told", 8);
        Run.of("t1;p0;s3 0 0;w0 9 0;").due(1000, "statue", 0, 5);
    }

    private static void stayingEven() {
        sentence("It STAYS with as many for it as against it, or more.");
        Run.of("t1;p0;s3 0 0;w1 3 1;w1 3 0;").due(1000, "statue", 0, 5).due(0, "told", 8).due(1, "year", 1);
        Run.of("t1;p0;s3 0 0;w1 4 1;w1 3 0;").due(1001, "statue", 0, 5).due(0, "told", 8).due(1, "year", 1);
        Run.of("t1;p0;s3 0 0;w1 2 1;w1 3 0;").due(999, "statue", 0, 5).due(1, "told", 8).due(0, "year", 1).due(0, "told", 8);
        Run.of("t1;p0;s3 0 0;").due(1000, "statue", 0, 5).due(0, "told", 8).due(1, "year", 1);
    }

    private static void elections() {
        sentence("An ELECTION: all who do not STAY GET DOWN (all by the same votes).");
        Run x = Run.of("t2;p0;p0;p0;s3 0 0;s3 1 0;s3 2 0;s3 9 0;w7 1 2;").due(5, "told", 8).due(7, "year", 1).due(2, "year", 1);
        x.due(5, "told", 7).due(NONE, "statue", 0, 5).due(NONE, "statue", 2, 5).due(1001, "statue", 1, 5);
        Run none = Run.of("t1;p0;s3 9 0;w1 1 0;").due(0, "told", 8).due(0, "year", 1).due(0, "statue", 0, 4);
        none.due(999, "stand", 0, 0).due(1, "told", 8).due(0, "year", 1);
    }

    private static void elected() {
        sentence("How often a STATUE was ELECTED (stayed in one) is counted.");
        Run x = Run.of("t3;p0;p0;s3 0 0;s3 1 0;s3 9 0;w2 1 0;").due(3, "year", 2);
        for (int s = 0; s < 3; s++) x.due(0, "statue", s, 4);
        x.due(1, "year", 1).due(1, "statue", 0, 4).due(0, "statue", 1, 4).due(0, "statue", 2, 4);
        x.due(1, "year", 3).due(2, "statue", 0, 4).due(0, "down", 0).due(0, "year", 3).due(2, "statue", 0, 4);
        x.due(1000, "stand", 0, 0).due(1, "year", 3).due(3, "statue", 0, 4);
    }

    private static void tiredAheadOfElections() {
        sentence("Then, STATUE by STATUE, one that is TIRED by 30 or more GETS DOWN. YEARS (0 at first) are one more; if T goes into them");
        Run.of("t1;p0;s0 0 0;").due(0, "year", 10).due(9, "statue", 0, 4);
        Run.of("t5;p0;s0 0 0;").due(1, "year", 9).due(1, "statue", 0, 4).due(0, "year", 1).due(1, "statue", 0, 4);
        Run.of("t9;p0;s0 0 0;").due(1, "year", 9).due(1, "statue", 0, 4);
    }

    private static void stands() {
        sentence("`int stand(int s, int p)`: STANDS: MARGIN. UNKNOWN, NOT: it stands, somebody is there.");
        Run x = Run.of("t1;p0;p0;p0;s3 0 0;s3 9 0;s3 9 0;w2 2 2;w2 3 0;");
        x.due(NOT, "stand", 0, 0).due(NOT, "stand", 0, 1).due(NOT, "stand", 1, 0).due(0, "told", 13);
        x.due(999, "stand", 1, 1).due(1, "statue", 1, 2).due(NOT, "stand", 1, 1).due(NOT, "stand", 1, 2).due(NOT, "stand", 2, 1);
        x.due(UNKNOWN, "stand", 2, 3).due(UNKNOWN, "stand", 2, -1).due(UNKNOWN, "stand", 2, 9).due(UNKNOWN, "stand", 3, 2);
        x.due(1000, "stand", 2, 2).due(0, "told", 7).due(2, "told", 13);
    }

    private static void getsDown() {
        sentence("`int down(int s)`: GETS DOWN: the PLINTH where it was. UNKNOWN, NOT: it does not stand.");
        Run x = Run.of("t9;p0;p0;s0 1 0;s3 9 0;");
        x.due(NOT, "down", 1).due(UNKNOWN, "down", 2).due(UNKNOWN, "down", -1).due(1, "year", 2).due(1, "down", 0).due(6, "statue", 0, 3);
        x.due(NOT, "down", 0).due(NONE, "statue", 0, 2).due(NONE, "plinth", 1, 1).due(3, "told", 7).due(2, "told", 13);
        Run tired = Run.of(POINTING).due(0, "year", 10).due(NOT, "down", 0);
        tired.due(1000, "stand", 0, 0).due(0, "down", 0);
    }

    private static void scrubbed() {
        sentence("`int scrub(int s)`: SCRUBBED: by how much it was TIRED. UNKNOWN.");
        Run x = Run.of(POINTING).due(0, "scrub", 0).due(1, "year", 9).due(27, "scrub", 0).due(0, "statue", 0, 3).due(0, "scrub", 0);
        x.due(1, "year", 1).due(3, "statue", 0, 3).due(0, "statue", 0, 2).due(UNKNOWN, "scrub", 1).due(UNKNOWN, "scrub", -1).due(5, "told", 13);
        Run down = Run.of(POINTING).due(0, "year", 10).due(30, "scrub", 0).due(NONE, "statue", 0, 2).due(0, "year", 1).due(0, "statue", 0, 3);
        down.due(1000, "stand", 0, 0).due(10, "goesDown", 0);
    }

    private static void waysAndLikes() {
        sentence("A WALKER's PLINTHS become another SET; whom one likes becomes another SET.");
        Run x = Run.of("t9;p0;p0;s3 0 0;s3 1 0;w3 5 3;");
        x.due(3, "walk", 0, 0).due(1000, "statue", 0, 5).due(0, "walk", 0, 3).due(3, "walk", 0, 3).due(1005, "statue", 1, 5);
        x.due(UNKNOWN, "walk", 0, 4).due(UNKNOWN, "walk", 0, -1).due(UNKNOWN, "walk", 1, 0).due(3, "walker", 0, 0);
        x.due(3, "like", 0, 0).due(995, "statue", 0, 5).due(0, "like", 0, 3).due(3, "like", 0, 2).due(1005, "statue", 1, 5);
        x.due(UNKNOWN, "like", 0, 4).due(UNKNOWN, "like", 0, -1).due(UNKNOWN, "like", 1, 0).due(2, "walker", 0, 2).due(6, "told", 13);
    }

    private static void howManyYears() {
        sentence("`int year(int n)`: n YEARS (1 .. 60): who stands (a SET of STATUES). OUTSIDE, NOT: no CAPITAL; FULL: YEARS are above 9000.");
        int[] not = {0, -1, 61, 62, LEAST, MOST};
        Run x = Run.of(WAITING).dueForEach(OUTSIDE, not, "year", ANY).due(1, "year", 1).due(1, "told", 5).due(1, "year", 60).due(61, "told", 5);
        x.dueForEach(OUTSIDE, not, "year", ANY).due(61, "told", 5).due(2, "told", 13);
        Run.anew().dueForEach(OUTSIDE, not, "year", ANY).due(NOT, "year", 1).due(NOT, "year", 60);
        Run.of("t1;").due(0, "year", 60).due(60, "told", 5);
        sentence("`int drift(int n)`: n YEARS (1 .. 60) BY DRAWS: who stands. OUTSIDE, NOT: no CAPITAL; FULL: YEARS are above 9000.");
        Run y = Run.of(WAITING).dueForEach(OUTSIDE, not, "drift", ANY).due(1, "drift", 1).due(1, "told", 5).due(1, "drift", 60).due(61, "told", 5);
        y.dueForEach(OUTSIDE, not, "drift", ANY).due(61, "told", 5).due(2, "told", 13);
        Run.anew().dueForEach(OUTSIDE, not, "drift", ANY).due(NOT, "drift", 1).due(NOT, "drift", 60).due(0, "seed", 0);
        Run.of("t1;").due(0, "drift", 60).due(60, "told", 5);
    }

    private static Run inYear9000(String name) {
        Run x = Run.of("t7;p0;s3 0 0;");
        for (int i = 0; i < 150; i++) x.make(name, 60);
        return x.due(9000, "told", 5);
    }

    private static void lastYears() {
        sentence("FULL: YEARS are above 9000.");
        for (String name : new String[] {"year", "drift"}) {
            inYear9000(name).due(1, "year", 1).due(9001, "told", 5).due(FULL, "year", 1).due(FULL, "drift", 1).due(FULL, "year", 60).due(9001, "told", 5);
            inYear9000(name).due(1, "drift", 1).due(9001, "told", 5).due(FULL, "year", 1).due(FULL, "drift", 60);
            inYear9000(name).due(1, "year", 60).due(9060, "told", 5).due(FULL, "year", 1).due(15, "undo").due(1, "drift", 60).due(9060, "told", 5);
            inYear9000(name).due(1285, "statue", 0, 4).due(0, "standing", 0, 60).due(NONE, "goesDown", 0);
        }
        // what is tried goes on beyond them
        Run tried = Run.of("t7;p0;s1 9 0;");
        for (int i = 0; i < 151; i++) tried.make("year", 60);
        tried.due(1000, "stand", 0, 0).due(0, "standing", 0, 29).due(NONE, "standing", 0, 30).due(30, "goesDown", 0).due(FULL, "year", 30);
        Run x = inYear9000("year").due(1, "year", 1).due(FULL, "year", 1).due(NOT, "stand", 0, 0).due(0, "down", 0).due(1000, "stand", 0, 0);
        x.feed("t1;").due(0, "capital").due(0, "year", 1).due(1, "told", 5);
    }

    private static void undone() {
        sentence("UNDONE: the latest of year(), stand(), down(), scrub(), walk(), like(), drift() that was not refused");
        Run x = Run.of("t2;p0;p0;s0 0 0;s3 9 0;w1 1 1;w2 2 2;");
        x.due(1, "year", 2).due(1002, "stand", 1, 1).due(0, "down", 0).due(6, "scrub", 0).due(1, "walk", 0, 3).due(2, "like", 1, 3);
        x.make("drift", 60);
        x.due(62, "told", 5).due(7, "told", 13).due(6, "undo").due(2, "told", 5).due(3, "walker", 1, 2).due(3, "walker", 0, 0).due(2, "walker", 1, 0);
        x.due(5, "undo").due(2, "walker", 1, 2).due(4, "undo").due(1, "walker", 0, 0).due(3, "undo").due(6, "statue", 0, 3).due(2, "undo").due(0, "statue", 0, 2);
        x.due(1, "undo").due(NONE, "statue", 1, 2).due(1, "statue", 0, 4).due(0, "undo").due(0, "statue", 0, 4).due(0, "statue", 0, 3).due(0, "told", 5);
        x.due(NOT, "undo").due(0, "told", 13);
        sentence("all of section 2 is as ahead of it; THE SEED stays.");
        // from 0 a draw of 4, of walkers, of plinths: 12345, 1406932606, 654583775
        Run drawn = Run.of("t9;p0;w0 1 0;").due(0, "drift", 1).due(1, "walker", 0, 0).due(0, "undo").due(0, "walker", 0, 0).due(0, "told", 5);
        drawn.due(654583775, "seed", 654583775).due(NOT, "undo");
        Run same = Run.of("t9;p0;s3 0 0;").due(0, "scrub", 0).due(0, "scrub", 0).due(2, "told", 13).due(1, "undo").due(0, "undo").due(NOT, "undo");
        same.due(1, "year", 1).due(0, "undo").due(0, "told", 5);
    }

    private static void undoneLost() {
        sentence("(16 at most are kept, the oldest are lost)");
        for (int many = 15; many <= 18; many++) {
            Run x = Run.of(WAITING);
            for (int i = 1; i <= many; i++) x.due(1, "year", 1).due(Math.min(i, 16), "told", 13);
            int kept = Math.min(many, 16);
            for (int i = 1; i <= kept; i++) x.due(kept - i, "undo").due(many - i, "told", 5);
            x.due(NOT, "undo").due(many - kept, "told", 5);
        }
        Run turned = Run.of(WAITING);
        for (int i = 0; i < 20; i++) turned.make("year", 1);
        for (int i = 0; i < 10; i++) turned.make("undo");
        turned.due(10, "told", 5).due(6, "told", 13);
        for (int i = 0; i < 9; i++) turned.make("year", 2);
        turned.due(28, "told", 5).due(15, "told", 13).due(1, "year", 2).due(16, "told", 13).due(1, "year", 2).due(16, "told", 13);
        for (int i = 1; i <= 11; i++) turned.due(16 - i, "undo").due(32 - 2 * i, "told", 5);
        for (int i = 1; i <= 5; i++) turned.due(5 - i, "undo").due(10 - i, "told", 5);
        turned.due(NOT, "undo").due(5, "told", 5);
        Run mixed = Run.of("t9;p0;s3 0 0;w0 1 0;");
        mixed.due(0, "walk", 0, 1).due(0, "like", 0, 1);
        for (int i = 0; i < 15; i++) mixed.make("year", 1);
        for (int i = 15; i > 0; i--) mixed.due(i, "undo");
        mixed.due(0, "told", 5).due(1, "walker", 0, 2).due(0, "undo").due(0, "walker", 0, 2).due(NOT, "undo").due(1, "walker", 0, 0);
    }

    private static void undoneNot() {
        sentence("`int undo()`: The latest is undone: how many more can be. NOT: none.");
        Run.anew().due(NOT, "undo");
        Run x = Run.of(WAITING).due(NOT, "undo").due(1, "year", 1);
        x.due(NOT, "stand", 0, 0).due(OUTSIDE, "year", 0).due(UNKNOWN, "down", 1).due(1, "count", 0, 1).due(1, "write", 0, 0).due(0, "seed", 3);
        x.due(2, "tear").due(0, "standing", 0, 9).due(1, "told", 13).due(0, "undo").due(0, "told", 5).due(3, "seed", 3).due(NOT, "undo");
        x.due(1, "year", 1).due(1, "keep", 0).due(NOT, "undo").due(1, "year", 1).due(1, "goBack", 0).due(NOT, "undo").due(1, "told", 5);
        x.due(1, "year", 1).feed("t1;").due(1, "told", 13).due(0, "capital").due(NOT, "undo");
    }
}
