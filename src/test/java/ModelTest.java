import java.util.Map;
import java.util.Random;
import java.util.Set;
import java.util.TreeMap;
import java.util.TreeSet;
import java.util.function.ToIntFunction;

/**
 * 'An object is used for at most 512 calls': random runs of 512 calls of all kinds, each answer
 * held against PlainBand. The seeds are fixed. At the end each call must have been answered in
 * each way that its promise names, and in no other.
 */
public final class ModelTest {
    private static final int RUNS = 900, CALLS = 512, TOO_MANY = 20;
    private static final int NONE = TurnedCards.NONE;

    /** By call: 'plain' is an answer that is neither a refusal nor NONE. */
    private static final String[] WAYS = {
        "cards plain BAD", "thread plain UNKNOWN BAD STATE", "way plain UNKNOWN BAD STATE", "flip plain UNKNOWN",
        "pack plain UNKNOWN", "about plain UNKNOWN BAD", "at plain UNKNOWN BAD", "pick plain BAD FULL",
        "packs plain BAD FULL", "unweave plain STATE", "turn plain UNKNOWN", "shows plain UNKNOWN",
        "shown plain UNKNOWN", "slant plain UNKNOWN", "longest plain UNKNOWN", "many plain UNKNOWN BAD",
        "repeat plain", "is plain BAD", "rows plain", "worst plain", "going plain NONE UNKNOWN BAD STATE FULL",
        "evens plain NONE BAD", "paint plain NONE UNKNOWN BAD", "rule plain BAD", "unlike plain",
        "idles plain NONE UNKNOWN", "turning plain NONE UNKNOWN BAD", "behind plain NONE UNKNOWN",
        "weave plain NONE FULL", "threading plain NONE UNKNOWN STATE", "quarrel plain NONE UNKNOWN",
        "wrongs plain UNKNOWN STATE", "wrong plain NONE UNKNOWN STATE", "count plain BAD"
    };
    private static final Map<String, Set<String>> ANSWERED = new TreeMap<>();

    private final Random random;
    private final TurnedCards x = new TurnedCards();
    private final PlainBand y = new PlainBand();
    private final int run;
    private final int palette;
    private final int idleOften;
    private final int weaveOften;
    private final int mostHeight;
    private final boolean flips;
    private int n = 4;
    private int calls = 0;

    private ModelTest(int run) {
        this.run = run;
        random = new Random(run);
        palette = 1 + random.nextInt(4);
        idleOften = random.nextInt(10);
        weaveOften = 15 + random.nextInt(40);
        mostHeight = run % 25 == 0 ? 30 : 1 + random.nextInt(7);
        flips = run % 5 != 0;
    }

    public static void main(String[] args) {
        for (int run = 0; run < RUNS && Due.wrongs() < TOO_MANY; run++) {
            new ModelTest(run).play();
        }
        for (String call : WAYS) {
            String name = call.substring(0, call.indexOf(' '));
            Set<String> ways = new TreeSet<>(Set.of(call.substring(name.length() + 1).split(" ")));
            Set<String> answered = ANSWERED.getOrDefault(name, Set.of());
            Due.holds(name + " was answered in the ways " + ways + ": " + answered, answered.equals(ways));
        }
        Due.is("calls that were made", ANSWERED.size(), WAYS.length);
        Due.end();
    }

    private void play() {
        if (run % 10 != 3) {
            newBand();
        }
        while (calls < CALLS && Due.wrongs() < TOO_MANY) {
            int dice = random.nextInt(100);
            if (dice < weaveOften) {
                weaveSome();
            } else if (dice < weaveOften + 15) {
                paintSome();
            } else if (dice < weaveOften + 18) {
                changeCards();
            } else if (dice < weaveOften + 20) {
                askAllOf(random.nextInt(n));
            } else {
                ask();
            }
        }
    }

    /** The one door to both bands: no object is asked more often than the document allows. */
    private void due(String call, ToIntFunction<TurnedCards> ofX, ToIntFunction<PlainBand> ofY) {
        if (calls == CALLS) {
            return;
        }
        calls++;
        int got = ofX.applyAsInt(x);
        Due.is("run " + run + ", call " + calls + ": " + call, got, ofY.applyAsInt(y));
        ANSWERED.computeIfAbsent(call.split(" ")[0], name -> new TreeSet<>()).add(wayOf(got));
    }

    /** A going of -1 to -4 is told as if it were a refusal: RefusalsTest looks at those of it. */
    private static String wayOf(int answer) {
        String[] refusals = {"UNKNOWN", "BAD", "STATE", "FULL"};
        if (answer == NONE) {
            return "NONE";
        }
        return answer < 0 && answer >= -4 ? refusals[-1 - answer] : "plain";
    }

    private void newBand() {
        int most = mostHeight > 7 ? 2 : 6;
        int wanted = run % 50 == 7 ? 16 : 1 + random.nextInt(most);
        if (calls == CALLS) {
            return;
        }
        due("cards " + wanted, b -> b.cards(wanted), b -> b.cards(wanted));
        n = wanted;
        for (int c = 0; c < n; c++) {
            for (int t = 0; t < 4; t++) {
                recolour(c, t, random.nextInt(palette));
            }
        }
        rule(0, 1 + random.nextInt(mostHeight));
    }

    /** Now and then a value just outside of what is taken, or far from it. */
    private int odd(int least, int most) {
        if (random.nextInt(40) == 0) {
            int[] far = {least - 1, most + 1, Integer.MIN_VALUE, Integer.MAX_VALUE, NONE};
            return far[random.nextInt(far.length)];
        }
        return least + random.nextInt(Math.max(1, most - least + 1));
    }

    private int card() {
        return odd(0, n - 1);
    }

    private int pickNumber() {
        return odd(0, y.count(1) - 1);
    }

    // ---- calls that change something

    private void recolour(int card, int thread, int colour) {
        due("thread " + card + " " + thread + " " + colour,
                b -> b.thread(card, thread, colour), b -> b.thread(card, thread, colour));
    }

    private void rule(int what, int v) {
        due("rule " + what + " " + v, b -> b.rule(what, v), b -> b.rule(what, v));
    }

    private void paint(int row, int card, int colour) {
        due("paint " + row + " " + card + " " + colour,
                b -> b.paint(row, card, colour), b -> b.paint(row, card, colour));
    }

    private void weaveSome() {
        int dice = random.nextInt(20);
        if (dice < 8) {
            pickSome();
        } else if (dice < 12) {
            int[] t = {odd(0, 2), odd(0, 2), odd(0, 2), odd(0, 2)};
            due("packs", b -> b.packs(t[0], t[1], t[2], t[3]), b -> b.packs(t[0], t[1], t[2], t[3]));
        } else if (dice < 14) {
            due("weave", b -> b.weave(), b -> b.weave());
        } else if (dice < 18) {
            due("unweave", b -> b.unweave(), b -> b.unweave());
        } else if (flips) {
            int c = card();
            due("flip " + c, b -> b.flip(c), b -> b.flip(c));
        }
    }

    private void pickSome() {
        int forward = 0;
        int back = 0;
        for (int c = 0; c < n; c++) {
            if (random.nextInt(10) >= idleOften) {
                if (random.nextInt(3) > 0) {
                    forward |= 1 << c;
                } else {
                    back |= 1 << c;
                }
            }
        }
        int f = random.nextInt(40) == 0 ? forward | 1 << random.nextInt(32) : forward;
        int g = random.nextInt(40) == 0 ? back | 1 << random.nextInt(32) : back;
        due("pick " + f + " " + g, b -> b.pick(f, g), b -> b.pick(f, g));
    }

    private void paintSome() {
        int dice = random.nextInt(20);
        if (dice < 5) {
            copyWoven();
        } else if (dice < 15) {
            int row = random.nextInt(3) == 0 ? odd(0, 29) : odd(0, mostHeight - 1);
            paint(row, card(), random.nextInt(3) == 0 ? NONE : odd(0, palette - 1));
        } else if (dice < 18) {
            rule(0, odd(1, mostHeight));
        } else {
            int what = odd(0, 1);
            rule(what, what == 0 ? odd(1, mostHeight) : odd(0, 9));
        }
    }

    /** So that pictures are often those of a band, with few turns of it otherwise. */
    private void copyWoven() {
        int c = random.nextInt(n);
        int rows = Math.min(y.count(1), mostHeight);
        for (int r = 0; r < rows; r++) {
            paint(r, c, y.shows(r, c, false));
        }
    }

    private void changeCards() {
        int c = card();
        int dice = random.nextInt(100);
        if (dice < 40) {
            int p = odd(0, 3);
            due("pack " + c + " " + p, b -> b.pack(c, p), b -> b.pack(c, p));
        } else if (dice < 65) {
            int w = odd(0, 1);
            due("way " + c + " " + w, b -> b.way(c, w), b -> b.way(c, w));
        } else if (dice < 95) {
            recolour(c, odd(0, 3), odd(0, palette - 1));
        } else if (dice < 97) {
            newBand();
        } else {
            int bad = random.nextBoolean() ? 0 : 17;
            due("cards " + bad, b -> b.cards(bad), b -> b.cards(bad));
        }
    }

    // ---- calls that only ask

    private void ask() {
        int c = card();
        switch (random.nextInt(8)) {
            case 0: askOfCard(c); break;
            case 1: case 2: askOfPick(pickNumber(), c, random.nextBoolean()); break;
            case 3: askOfBand(); break;
            case 4: askOfEvens(odd(0, 3), random.nextInt(4) == 0 ? odd(0, 60) : odd(0, 4)); break;
            case 5: case 6: askOfPlans(c, odd(0, mostHeight - 1)); break;
            default: askOfThreading(c, odd(0, 3), odd(0, 5)); break;
        }
    }

    private void askOfCard(int c) {
        int what = odd(0, 4);
        int place = odd(0, 3);
        switch (random.nextInt(3)) {
            case 0: due("about " + c + " " + what, b -> b.about(c, what), b -> b.about(c, what)); break;
            case 1: due("at " + c + " " + place, b -> b.at(c, place), b -> b.at(c, place)); break;
            default: due("longest " + c, b -> b.longest(c), b -> b.longest(c)); break;
        }
    }

    private void askOfPick(int p, int c, boolean back) {
        int colour = odd(0, 7);
        String of = " " + p + " " + c;
        switch (random.nextInt(5)) {
            case 0: due("turn" + of, b -> b.turn(p, c), b -> b.turn(p, c)); break;
            case 1: due("shows" + of, b -> b.shows(p, c, back), b -> b.shows(p, c, back)); break;
            case 2: due("shown" + of, b -> b.shown(p, c, back), b -> b.shown(p, c, back)); break;
            case 3: due("slant" + of, b -> b.slant(p, c), b -> b.slant(p, c)); break;
            default: due("many " + p + " " + colour, b -> b.many(p, colour), b -> b.many(p, colour)); break;
        }
    }

    private void askOfBand() {
        int what = odd(0, 4);
        int which = odd(0, 1);
        boolean card = random.nextBoolean();
        switch (random.nextInt(6)) {
            case 0: due("repeat", b -> b.repeat(), b -> b.repeat()); break;
            case 1: due("is " + which, b -> b.is(which), b -> b.is(which)); break;
            case 2: due("rows", b -> b.rows(), b -> b.rows()); break;
            case 3: due("worst", b -> b.worst(card), b -> b.worst(card)); break;
            case 4: due("unlike", b -> b.unlike(), b -> b.unlike()); break;
            default: due("count " + what, b -> b.count(what), b -> b.count(what)); break;
        }
    }

    private void askOfEvens(int pack, int limit) {
        if (random.nextBoolean()) {
            due("going " + pack + " " + limit, b -> b.going(pack, limit), b -> b.going(pack, limit));
        } else {
            due("evens " + limit, b -> b.evens(limit), b -> b.evens(limit));
        }
    }

    private void askOfPlans(int c, int i) {
        switch (random.nextInt(3)) {
            case 0: due("idles " + c, b -> b.idles(c), b -> b.idles(c)); break;
            case 1: due("turning " + c + " " + i, b -> b.turning(c, i), b -> b.turning(c, i)); break;
            default: due("behind " + c, b -> b.behind(c), b -> b.behind(c)); break;
        }
    }

    private void askOfThreading(int c, int thread, int i) {
        switch (random.nextInt(4)) {
            case 0: due("threading " + c + " " + thread, b -> b.threading(c, thread), b -> b.threading(c, thread)); break;
            case 1: due("quarrel " + c, b -> b.quarrel(c), b -> b.quarrel(c)); break;
            case 2: due("wrongs " + c, b -> b.wrongs(c), b -> b.wrongs(c)); break;
            default: due("wrong " + c + " " + i, b -> b.wrong(c, i), b -> b.wrong(c, i)); break;
        }
    }

    /** How a card lies and what the latest pick did to it, so that little of what went wrong stays hidden. */
    private void askAllOf(int c) {
        int latest = y.count(1) - 1;
        for (int i = 0; i <= 4; i++) {
            int what = i;
            due("about " + c + " " + what, b -> b.about(c, what), b -> b.about(c, what));
            due("at " + c + " " + what, b -> b.at(c, what), b -> b.at(c, what));
        }
        due("turn", b -> b.turn(latest, c), b -> b.turn(latest, c));
        due("shown front", b -> b.shown(latest, c, false), b -> b.shown(latest, c, false));
        due("shown back", b -> b.shown(latest, c, true), b -> b.shown(latest, c, true));
        due("slant", b -> b.slant(latest, c), b -> b.slant(latest, c));
    }
}
