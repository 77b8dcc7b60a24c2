import java.util.Random;

/** Runs of calls by fixed seeds, on the class and on the plain telling of the document; all answers are held together. */
final class AgainstPlainTest {
    private static final int RUNS = 6000;
    private static int wrong = 0;
    private static long calls = 0;

    private final Random random;
    private final StatueVotes x = new StatueVotes();
    private final PlainCapital y = new PlainCapital();
    private final StringBuilder told = new StringBuilder();

    private AgainstPlainTest(long seed) {
        random = new Random(seed);
    }

    public static void main(String[] args) {
        for (int run = 0; run < RUNS && wrong < 5; run++) {
            new AgainstPlainTest(run).run(run);
        }
        System.out.println(RUNS + " runs, " + calls + " calls against the plain telling, " + wrong + " wrong");
        if (wrong != 0) System.exit(1);
    }

    private void run(int run) {
        int before = wrong;
        int left = 512;
        for (int part = 0; part < 2 && wrong == before; part++) {
            String text = part == 0 && run % 3 == 0 ? bent(text()) : text();
            for (int i = 0; i < text.length(); i++) same("feed", text.charAt(i), 0, 0);
            same("capital", 0, 0, 0);
            same("fault", 0, 0, 0);
            left -= text.length() + 2;
            int many = Math.min(left, part == 0 ? 60 : 400);
            for (int i = 0; i < many && wrong == before; i++) anyCall();
            left -= many;
        }
    }

    private int upTo(int n) {
        return random.nextInt(n + 1);
    }

    /** A capital without fault, of any size. */
    private String text() {
        StringBuilder t = new StringBuilder();
        int plinths = upTo(5), statues = upTo(6), walkers = upTo(7);
        int taken = 0;
        word(t, 't', 1 + upTo(8));
        for (int p = 0; p < plinths; p++) word(t, 'p', upTo(99));
        for (int s = 0; s < statues; s++) {
            int p = plinths == 0 || random.nextInt(4) == 0 ? 9 : random.nextInt(plinths);
            if (p != 9 && (taken >> p & 1) == 1) p = 9;
            if (p != 9) taken |= 1 << p;
            word(t, 's', upTo(3), p, random.nextBoolean() ? upTo(99) : upTo(50));
        }
        for (int w = 0; w < walkers; w++) word(t, 'w', upTo((1 << plinths) - 1), 1 + upTo(8), upTo((1 << statues) - 1));
        return t.length() > 240 ? "t1;" : t.toString();
    }

    private void word(StringBuilder t, char word, int... numbers) {
        String blank = random.nextInt(12) == 0 ? " " : "";
        t.append(blank).append(word);
        for (int i = 0; i < numbers.length; i++) t.append(i > 0 ? " " : "").append(blank).append(numbers[i]);
        t.append(blank).append(';');
    }

    private String bent(String text) {
        StringBuilder t = new StringBuilder(text);
        String letters = "tpsw; 0123456789x9";
        for (int i = upTo(3); i >= 0; i--) {
            char letter = random.nextInt(30) == 0 ? (char) upTo(255) : letters.charAt(random.nextInt(letters.length()));
            int at = upTo(t.length());
            int how = random.nextInt(5);
            if (how == 0 || at == t.length()) t.insert(at, letter);
            else if (how == 1) t.deleteCharAt(at);
            else if (how == 2) t.setCharAt(at, letter);
            else if (how == 3) t.setLength(at);
            else t.insert(at, t.substring(Math.max(0, at - 8), at));
        }
        if (t.length() > 240) t.setLength(240);
        return t.toString();
    }

    private int few(int n) {
        int r = random.nextInt(40);
        if (r == 0) return -1 - upTo(3);
        if (r == 1) return Integer.MIN_VALUE;
        if (r == 2) return Integer.MAX_VALUE;
        return random.nextInt(n + 1);
    }

    private static final String[] NAMES = {
        "told", "plinth", "statue", "walker", "year", "stand", "stand", "stand", "down", "scrub", "walk", "walk", "like",
        "like", "drift", "undo", "standing", "goesDown", "change", "change", "power", "power", "mostHave", "places",
        "swaps", "swaps", "close", "count", "likings", "ladder", "write", "tear", "judge", "seed", "keep", "goBack",
        "fault", "told", "statue", "statue"
    };

    private void anyCall() {
        int r = random.nextInt(2000);
        if (r == 0) {
            same("capital", 0, 0, 0);
            return;
        }
        if (r == 1) {
            same("feed", few(255), 0, 0);
            return;
        }
        String name = NAMES[random.nextInt(NAMES.length)];
        switch (name) {
            case "told": same(name, few(14), 0, 0); break;
            case "plinth": same(name, few(5), few(4), 0); break;
            case "statue": same(name, few(6), few(7), 0); break;
            case "walker": same(name, few(7), few(3), 0); break;
            case "year":
            case "drift": same(name, random.nextBoolean() ? few(61) : 1 + upTo(3), 0, 0); break;
            case "stand": same(name, few(6), few(5), 0); break;
            case "walk": same(name, few(6), few(31), 0); break;
            case "like": same(name, few(6), few(63), 0); break;
            case "standing": same(name, few(6), random.nextBoolean() ? few(61) : few(10), 0); break;
            case "change": same(name, few(5), few(2), 0); break;
            case "power": same(name, few(6), few(4), few(2)); break;
            case "mostHave": same(name, few(5), few(5), 0); break;
            case "places": same(name, few(7) - 2, 0, 0); break;
            case "swaps": same(name, few(3) - 1, 0, 0); break;
            case "close": same(name, few(61), few(101), 0); break;
            case "count": same(name, few(5), random.nextBoolean() ? few(15) : few(100), 0); break;
            case "likings": same(name, few(2), 0, 0); break;
            case "write": same(name, few(6), few(6) - 1, 0); break;
            case "seed": same(name, few(Integer.MAX_VALUE - 1), 0, 0); break;
            case "tear": if (random.nextInt(4) == 0) same(name, 0, 0, 0); break;
            case "keep":
            case "goBack": if (random.nextInt(4) == 0) same(name, few(2), 0, 0); break;
            default: same(name, few(6), 0, 0); break;
        }
    }

    private void same(String name, int a, int b, int c) {
        told.append(name).append('(').append(a).append(", ").append(b).append(", ").append(c).append(") ");
        int got = ofClass(name, a, b, c);
        int due = ofPlain(name, a, b, c);
        calls++;
        if (got != due) {
            wrong++;
            System.out.println(told + "answered " + got + ", due is " + due);
        }
    }

    private int ofClass(String name, int a, int b, int c) {
        switch (name) {
            case "feed": return x.feed(a);
            case "capital": return x.capital();
            case "fault": return x.fault();
            case "told": return x.told(a);
            case "plinth": return x.plinth(a, b);
            case "statue": return x.statue(a, b);
            case "walker": return x.walker(a, b);
            case "year": return x.year(a);
            case "stand": return x.stand(a, b);
            case "down": return x.down(a);
            case "scrub": return x.scrub(a);
            case "walk": return x.walk(a, b);
            case "like": return x.like(a, b);
            case "drift": return x.drift(a);
            case "undo": return x.undo();
            case "standing": return x.standing(a, b);
            case "goesDown": return x.goesDown(a);
            case "change": return x.change(a, b);
            case "power": return x.power(a, b, c);
            case "mostHave": return x.mostHave(a, b);
            case "places": return x.places(a);
            case "swaps": return x.swaps(a);
            case "close": return x.close(a, b);
            case "count": return x.count(a, b);
            case "likings": return x.likings(a);
            case "ladder": return x.ladder();
            case "write": return x.write(a, b);
            case "tear": return x.tear();
            case "judge": return x.judge();
            case "seed": return x.seed(a);
            case "keep": return x.keep(a);
            case "goBack": return x.goBack(a);
            default: throw new IllegalArgumentException(name);
        }
    }

    private int ofPlain(String name, int a, int b, int c) {
        switch (name) {
            case "feed": return y.feed(a);
            case "capital": return y.capital();
            case "fault": return y.fault();
            case "told": return y.told(a);
            case "plinth": return y.plinth(a, b);
            case "statue": return y.statue(a, b);
            case "walker": return y.walker(a, b);
            case "year": return y.year(a);
            case "stand": return y.stand(a, b);
            case "down": return y.down(a);
            case "scrub": return y.scrub(a);
            case "walk": return y.walk(a, b);
            case "like": return y.like(a, b);
            case "drift": return y.drift(a);
            case "undo": return y.undo();
            case "standing": return y.standing(a, b);
            case "goesDown": return y.goesDown(a);
            case "change": return y.change(a, b);
            case "power": return y.power(a, b, c);
            case "mostHave": return y.mostHave(a, b);
            case "places": return y.places(a);
            case "swaps": return y.swaps(a);
            case "close": return y.close(a, b);
            case "count": return y.count(a, b);
            case "likings": return y.likings(a);
            case "ladder": return y.ladder();
            case "write": return y.write(a, b);
            case "tear": return y.tear();
            case "judge": return y.judge();
            case "seed": return y.seed(a);
            case "keep": return y.keep(a);
            case "goBack": return y.goBack(a);
            default: throw new IllegalArgumentException(name);
        }
    }
}
