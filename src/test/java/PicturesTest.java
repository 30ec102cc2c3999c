/** Promises 24 to 35: pictures, turnings, threadings, wrong turns, counts. */
public final class PicturesTest {
    private static final int UNKNOWN = TurnedCards.UNKNOWN, BAD = TurnedCards.BAD,
            STATE = TurnedCards.STATE, FULL = TurnedCards.FULL, NONE = TurnedCards.NONE;

    public static void main(String[] args) {
        promise24();
        promise25();
        promise26();
        promises27To29();
        bestIsFewestIdle();
        bestIsLeastTwist();
        bestIsFirstByTurns();
        floatsAreKept();
        idleCountsOn();
        fromAsItLies();
        plansAreForgotten();
        refusalsOf27To29();
        promise30();
        promise30Refuses();
        promise31And32();
        promise33And34();
        promise33Back();
        promise33Edges();
        promise35();
        sixteenCards();
        Due.end();
    }

    /** A band of one card, HEIGHT and column 0 of the picture as told. */
    private static TurnedCards column(int... colours) {
        TurnedCards x = new TurnedCards();
        x.cards(1);
        x.rule(0, colours.length);
        repaint(x, colours);
        return x;
    }

    private static void repaint(TurnedCards x, int... colours) {
        for (int r = 0; r < colours.length; r++) {
            x.paint(r, 0, colours[r]);
        }
    }

    private static void picks(TurnedCards x, int times, int forward, int back) {
        for (int p = 0; p < times; p++) {
            x.pick(forward, back);
        }
    }

    private static int[] best(TurnedCards x, int card, int height) {
        int[] all = new int[height];
        for (int i = 0; i < height; i++) {
            all[i] = x.turning(card, i);
        }
        return all;
    }

    private static void dueBest(String what, TurnedCards x, int idles, int behind, int... turns) {
        Due.is(what + ": idles", x.idles(0), idles);
        Due.is(what + ": behind", x.behind(0), behind);
        Due.row(what + ": turnings", best(x, 0, turns.length), turns);
    }

    private static void dueNone(String what, TurnedCards x) {
        Due.is(what + ": idles", x.idles(0), NONE);
        Due.is(what + ": behind", x.behind(0), NONE);
        Due.is(what + ": turning 0", x.turning(0, 0), NONE);
    }

    private static void promise24() {
        TurnedCards x = new TurnedCards();
        Due.is("24 any at first", x.paint(0, 0, 7), NONE);
        Due.is("24 what was", x.paint(0, 0, 0), 7);
        Due.is("24 that row alone", x.paint(1, 0, NONE), NONE);
        Due.is("24 that card alone", x.paint(0, 1, NONE), NONE);
        Due.is("24 any again", x.paint(0, 0, NONE), 0);
        Due.is("24 any", x.paint(0, 0, 5), NONE);
        Due.is("24 last row, above HEIGHT", x.paint(29, 3, 6), NONE);
        Due.is("24 card ahead of row and colour", x.paint(30, 4, 8), UNKNOWN);
        Due.is("24 no card", x.paint(0, -1, 0), UNKNOWN);
        Due.is("24 row 30", x.paint(30, 0, 0), BAD);
        Due.is("24 row -1", x.paint(-1, 0, 0), BAD);
        Due.is("24 colour 8", x.paint(0, 0, 8), BAD);
        Due.is("24 colour -1", x.paint(0, 0, -1), BAD);
        Due.is("24 colour -98", x.paint(0, 0, -98), BAD);
        Due.is("24 refused changes nothing", x.paint(0, 0, 5), 5);
        x.pick(1, 0);
        Due.is("24 woven too", x.paint(0, 0, 4), 5);
        x.unweave();
        Due.is("24 the picture is not unwoven", x.paint(0, 0, 4), 4);
    }

    private static void promise25() {
        TurnedCards x = new TurnedCards();
        Due.is("25 HEIGHT", x.rule(0, 30), 1);
        Due.is("25 HEIGHT", x.rule(0, 1), 30);
        Due.is("25 FLOATS", x.rule(1, 9), 3);
        Due.is("25 FLOATS", x.rule(1, 0), 9);
        Due.is("25 HEIGHT 0", x.rule(0, 0), BAD);
        Due.is("25 HEIGHT 31", x.rule(0, 31), BAD);
        Due.is("25 FLOATS 10", x.rule(1, 10), BAD);
        Due.is("25 FLOATS -1", x.rule(1, -1), BAD);
        Due.is("25 what 2", x.rule(2, 1), BAD);
        Due.is("25 what -1", x.rule(-1, 1), BAD);
        Due.is("25 refused changes nothing", x.rule(0, 7), 1);
        Due.is("25 refused changes nothing", x.rule(1, 7), 0);
    }

    private static void promise26() {
        TurnedCards x = new TurnedCards();
        x.cards(2);
        x.paint(0, 0, 3);
        x.paint(0, 1, 1);
        x.paint(1, 0, 0);
        x.paint(1, 1, 0);
        x.paint(2, 0, 0);
        x.rule(0, 30);
        Due.is("26 nothing woven", x.unlike(), 0);
        x.pick(3, 0);
        Due.is("26 one card", x.unlike(), 1);
        x.pick(3, 0);
        Due.is("26 each row by itself", x.unlike(), 3);
        x.rule(0, 1);
        Due.is("26 within HEIGHT", x.unlike(), 1);
        x.rule(0, 2);
        Due.is("26 within HEIGHT", x.unlike(), 3);
    }

    private static void promises27To29() {
        dueBest("27 forward", column(3, 2, 1), 0, 103, 0, 0, 0);
        dueBest("27 back", column(2, 3, 0), 0, 97, 1, 1, 1);
        dueBest("27 idle in pick 0", column(0, 3), 1, 101, 2, 0);
        dueNone("27 no such colour", column(7));
        dueNone("27 not in that order", column(3, 0));
        TurnedCards z = column(3, 2, 1);
        z.way(0, 1);
        dueBest("29 while Z", z, 0, 97, 0, 0, 0);
        TurnedCards tall = new TurnedCards();
        tall.cards(1);
        tall.rule(0, 30);
        for (int r = 0; r < 30; r++) {
            tall.paint(r, 0, 3 - r % 4);
        }
        Due.is("27 thirty rows", tall.idles(0), 0);
        Due.is("29 thirty rows", tall.behind(0), 130);
        Due.is("28 the last", tall.turning(0, 29), 0);
        tall.weave();
        for (int r = 0; r < 30; r++) {
            tall.paint(r, 0, 3 - (r + 2) % 4);
        }
        Due.is("29 thirty more", tall.behind(0), 160);
        tall.weave();
        for (int r = 0; r < 30; r++) {
            tall.paint(r, 0, 3 - r % 4);
        }
        Due.is("27 of sixty picks, behind them", tall.idles(0), 0);
        Due.is("29 beyond sixty picks", tall.behind(0), 190);
    }

    private static void bestIsFewestIdle() {
        // Threads 0 and 3 alike: row 0 is fit by IDLE too, but forward has no idle turn.
        TurnedCards x = column(3, 2);
        x.thread(0, 0, 3);
        dueBest("27 fewest idle", x, 0, 102, 0, 0);
        // 3 again and again: one forward, then it rests; the last row brings it out again.
        dueBest("27 rests", column(3, 3, 3, NONE), 2, 100, 0, 2, 2, 1);
        // An untwisted end with one idle turn does not weigh up one idle turn less.
        TurnedCards y = column(3, 2, NONE);
        y.thread(0, 1, 3);
        dueBest("27 idle ahead of twist", y, 0, 101, 0, 0, 1);
    }

    private static void bestIsLeastTwist() {
        dueBest("29 out and in", column(NONE, NONE), 0, 100, 0, 1);
        TurnedCards x = column(NONE, NONE, NONE);
        picks(x, 1, 1, 0);
        dueBest("29 to 0", x, 0, 100, 0, 1, 1);
        picks(x, 3, 1, 0);
        dueBest("29 towards 0", x, 0, 101, 1, 1, 1);
        TurnedCards z = column(NONE, NONE, NONE);
        picks(z, 1, 1, 0);
        z.flip(0);
        dueBest("29 flipped", z, 0, 100, 0, 0, 1);
    }

    private static void bestIsFirstByTurns() {
        dueBest("28 forward ahead of back", column(NONE), 0, 101, 0);
        TurnedCards z = column(NONE);
        z.way(0, 1);
        dueBest("28 though Z", z, 0, 99, 0);
        // Row 0 only back; then either way has twist 0 or -2: forward.
        dueBest("28 back if it must", column(2, NONE), 0, 100, 1, 0);
        // One row is idle whichever it is; a turn ahead of the idle one is the first.
        TurnedCards alike = column(0, 0);
        alike.thread(0, 1, 7);
        alike.thread(0, 3, 0);
        // Idle, forward (3); or forward, idle: both have one idle turn and the same twist.
        dueBest("28 turns ahead of idle", alike, 1, 101, 0, 2);
    }

    private static void floatsAreKept() {
        TurnedCards x = column(3, 3, 3, 3);
        dueBest("27 three floats", x, 3, 101, 0, 2, 2, 2);
        x.rule(1, 2);
        dueNone("27 two floats", x);
        x.rule(1, 9);
        dueBest("27 nine floats", x, 3, 101, 0, 2, 2, 2);
        TurnedCards nine = column(3, 3, 3, 3, 3, 3, 3, 3, 3, 3);
        dueNone("27 nine after one", nine);
        nine.rule(1, 8);
        dueNone("27 nine after one", nine);
        nine.rule(1, 9);
        dueBest("27 nine after one", nine, 9, 101, 0, 2, 2, 2, 2, 2, 2, 2, 2, 2);
        TurnedCards none = column(0);
        none.rule(1, 0);
        dueNone("27 no floats", none);
        none.rule(1, 1);
        dueBest("27 one float", none, 1, 100, 2);
    }

    private static void idleCountsOn() {
        TurnedCards x = column(0, 0);
        picks(x, 2, 0, 0);
        dueNone("27 two and two", x);
        x.rule(1, 4);
        dueBest("27 two and two of four", x, 2, 100, 2, 2);
        x.rule(0, 1);
        x.rule(1, 3);
        dueBest("27 two and one", x, 1, 100, 2);
        picks(x, 1, 0, 0);
        dueNone("27 three and one", x);
        picks(x, 9, 0, 0);
        x.rule(1, 9);
        dueNone("27 twelve and one of nine", x);
        x.paint(0, 0, NONE);
        dueBest("27 it may be turned", x, 0, 101, 0);
        x.unweave();
        picks(x, 1, 1, 0);
        x.paint(0, 0, 3);
        dueBest("27 turned, the float is over", x, 1, 101, 2);
    }

    private static void fromAsItLies() {
        TurnedCards x = column(2);
        picks(x, 1, 1, 0);
        dueBest("27 behind forward", x, 0, 102, 0);
        x.paint(0, 0, 1);
        dueBest("27 behind forward", x, 0, 100, 1);
        x.paint(0, 0, 3);
        dueBest("27 shows on", x, 1, 101, 2);
        x.flip(0);
        dueBest("27 shows on behind a flip", x, 1, 101, 2);
        x.paint(0, 0, 1);
        dueBest("27 forward behind a flip", x, 0, 100, 0);
        x.paint(0, 0, 2);
        dueBest("27 back behind a flip", x, 0, 102, 1);
        TurnedCards y = column(1);
        y.flip(0);
        dueBest("27 idle in pick 0, flipped", y, 1, 100, 2);
        TurnedCards back = column(2);
        picks(back, 1, 0, 1);
        dueBest("27 shows on behind back", back, 1, 99, 2);
        back.unweave();
        dueBest("27 unwoven", back, 0, 99, 1);
    }

    /** Each change asks anew: nothing of an earlier answer is left. */
    private static void plansAreForgotten() {
        TurnedCards x = column(3);
        dueBest("27 first", x, 0, 101, 0);
        x.thread(0, 3, 6);
        dueNone("27 a colour changed", x);
        x.paint(0, 0, 6);
        dueBest("27 the picture changed", x, 0, 101, 0);
        x.way(0, 1);
        dueBest("27 the way changed", x, 0, 99, 0);
        x.packs(0, 0, 0, 0);
        dueBest("27 a pick", x, 1, 99, 2);
        x.rule(1, 0);
        dueNone("27 a rule", x);
        x.unweave();
        dueBest("27 unwoven", x, 0, 99, 0);
        x.flip(0);
        // 1 0 3 2: now back brings thread 3 to the front, and it is S again.
        dueBest("27 flipped", x, 0, 99, 1);
        x.cards(1);
        dueBest("27 a new band", x, 0, 101, 0);
    }

    private static void refusalsOf27To29() {
        TurnedCards x = column(7, 7);
        Due.is("27 no card", x.idles(1), UNKNOWN);
        Due.is("27 no card", x.idles(-1), UNKNOWN);
        Due.is("28 card ahead of i", x.turning(1, 2), UNKNOWN);
        Due.is("28 no card", x.turning(-1, 0), UNKNOWN);
        Due.is("28 i is HEIGHT", x.turning(0, 2), BAD);
        Due.is("28 i -1", x.turning(0, -1), BAD);
        Due.is("28 the last i", x.turning(0, 1), NONE);
        Due.is("29 no card", x.behind(1), UNKNOWN);
        Due.is("29 no card", x.behind(-1), UNKNOWN);
    }

    private static void promise30() {
        TurnedCards x = new TurnedCards();
        x.cards(3);
        x.rule(0, 3);
        int[][] picture = {{3, 2, 0}, {2, 2, 0}, {NONE, 3, 3}};
        for (int r = 0; r < 3; r++) {
            for (int c = 0; c < 3; c++) {
                x.paint(r, c, picture[r][c]);
            }
        }
        Due.is("30 three", x.weave(), 3);
        Due.is("30 as the picture", x.unlike(), 0);
        int[][] turns = {{0, 1, 2}, {0, 2, 2}, {1, 1, 0}};
        for (int r = 0; r < 3; r++) {
            for (int c = 0; c < 3; c++) {
                Due.is("30 turn of card " + c + " in pick " + r, x.turn(r, c), turns[r][c]);
            }
        }
        Due.is("30 twist", x.about(0, 2), 101);
        Due.is("30 twist", x.about(1, 2), 98);
        // Card 2 shows thread 3 and would have to show 0 next, which no turn does.
        Due.is("30 not from there", x.weave(), NONE);
        Due.is("30 NONE changes nothing", x.count(1), 3);
        Due.is("30 unwoven pick by pick", x.unweave(), 2);
        Due.is("30 idle", x.about(2, 3), 2);
    }

    private static void promise30Refuses() {
        TurnedCards x = new TurnedCards();
        x.rule(0, 30);
        Due.is("30 thirty", x.weave(), 30);
        Due.is("30 sixty", x.weave(), 60);
        x.rule(0, 1);
        Due.is("30 full", x.weave(), FULL);
        x.paint(0, 3, 7);
        Due.is("30 NONE ahead of FULL", x.weave(), NONE);
        x.paint(0, 3, NONE);
        x.unweave();
        x.rule(0, 2);
        Due.is("30 one too many", x.weave(), FULL);
        Due.is("30 FULL changes nothing", x.count(1), 59);
        x.rule(0, 1);
        Due.is("30 just sixty", x.weave(), 60);
    }

    private static void promise31And32() {
        TurnedCards x = column(5, 6, NONE, NONE, 5, 6);
        Due.is("32 nothing woven", x.quarrel(0), NONE);
        Due.is("31 nothing woven", x.threading(0, 3), NONE);
        picks(x, 6, 1, 0);
        // Forward: threads 3 2 1 0 3 2.
        Due.is("31 thread 3", x.threading(0, 3), 5);
        Due.is("31 thread 2", x.threading(0, 2), 6);
        Due.is("31 any", x.threading(0, 1), NONE);
        Due.is("31 any", x.threading(0, 0), NONE);
        Due.is("32 none", x.quarrel(0), NONE);
        x.paint(0, 0, NONE);
        Due.is("31 by the later row", x.threading(0, 3), 5);
        x.paint(0, 0, 5);
        x.paint(5, 0, 0);
        Due.is("32 row 5", x.quarrel(0), 5);
        x.paint(4, 0, 0);
        Due.is("32 the first row", x.quarrel(0), 4);
        Due.is("31 a quarrel", x.threading(0, 3), STATE);
        Due.is("31 a quarrel of another thread", x.threading(0, 1), STATE);
        Due.is("31 UNKNOWN ahead of STATE", x.threading(0, 4), UNKNOWN);
        Due.is("31 UNKNOWN ahead of STATE", x.threading(1, 0), UNKNOWN);
        Due.is("31 no thread", x.threading(0, -1), UNKNOWN);
        Due.is("31 no card", x.threading(-1, 0), UNKNOWN);
        Due.is("32 no card", x.quarrel(1), UNKNOWN);
        Due.is("32 no card", x.quarrel(-1), UNKNOWN);
        x.rule(0, 4);
        Due.is("32 within HEIGHT", x.quarrel(0), NONE);
        Due.is("31 within HEIGHT", x.threading(0, 3), 5);
        x.rule(0, 6);
        x.unweave();
        x.unweave();
        Due.is("32 as far as there are picks", x.quarrel(0), NONE);
        picks(x, 1, 0, 0);
        x.paint(3, 0, 1);
        Due.is("32 a float shows the thread on", x.quarrel(0), 4);
        Due.is("31 colours stay", x.shows(0, 0, false), 3);
    }

    private static void promise33And34() {
        // Told FORWARD three times (3 2 1); the picture is of FORWARD, BACK, FORWARD.
        TurnedCards x = column(3, 1, 3);
        Due.is("33 nothing woven", x.wrongs(0), 0);
        Due.is("34 nothing woven", x.wrong(0, 0), NONE);
        picks(x, 3, 1, 0);
        Due.is("33 one", x.wrongs(0), 1);
        Due.is("34 it", x.wrong(0, 0), 11);
        Due.is("34 no more", x.wrong(0, 1), NONE);
        Due.is("34 i -1", x.wrong(0, -1), NONE);
        repaint(x, 3, 2, 1);
        Due.is("33 as told, no other turn would do", x.wrongs(0), 0);
        repaint(x, 0, 3, 2);
        Due.is("33 idle instead in pick 0", x.wrongs(0), 1);
        Due.is("34 idle instead in pick 0", x.wrong(0, 0), 2);
        repaint(x, 3, 2, NONE);
        Due.is("33 the last, either turn", x.wrongs(0), 2);
        Due.is("34 back", x.wrong(0, 0), 21);
        Due.is("34 idle", x.wrong(0, 1), 22);
        repaint(x, 7, 7, 7);
        Due.is("33 none", x.wrongs(0), 0);
        repaint(x, NONE, NONE, NONE);
        int[] all = new int[6];
        for (int i = 0; i < 6; i++) {
            all[i] = x.wrong(0, i);
        }
        Due.is("33 all", x.wrongs(0), 6);
        Due.row("34 in order", all, 1, 2, 11, 12, 21, 22);
        x.rule(0, 2);
        Due.is("33 within HEIGHT", x.wrongs(0), 4);
        x.rule(0, 30);
        Due.is("33 as far as there are picks", x.wrongs(0), 6);
        x.pick(0, 0);
        Due.is("34 instead of idle", x.wrong(0, 6), 30);
        Due.is("34 instead of idle", x.wrong(0, 7), 31);
    }

    private static void promise33Back() {
        // Told BACK three times (2 3 0); the picture is of BACK, BACK, FORWARD (2 3 1).
        TurnedCards x = column(2, 3, 1);
        picks(x, 3, 0, 1);
        Due.is("33 forward instead", x.wrongs(0), 1);
        Due.is("34 forward instead", x.wrong(0, 0), 20);
        // IDLE in pick 1: 2 2 3.
        repaint(x, 2, 2, 3);
        Due.is("34 idle instead", x.wrong(0, 0), 12);
        // FORWARD in pick 0: 3 1 2.
        repaint(x, 3, 1, 2);
        Due.is("34 forward instead of the first", x.wrong(0, 0), 0);
        Due.is("33 that alone", x.wrongs(0), 1);
    }

    private static void promise33Edges() {
        TurnedCards x = new TurnedCards();
        x.cards(2);
        x.pick(3, 0);
        x.flip(0);
        Due.is("33 flipped", x.wrongs(0), STATE);
        Due.is("34 flipped", x.wrong(0, 0), STATE);
        Due.is("34 flipped, no such i", x.wrong(0, 99), STATE);
        Due.is("33 another card", x.wrongs(1), 2);
        x.flip(0);
        Due.is("33 flipped twice", x.wrongs(0), STATE);
        Due.is("33 no card", x.wrongs(2), UNKNOWN);
        Due.is("33 no card", x.wrongs(-1), UNKNOWN);
        Due.is("34 no card", x.wrong(2, 0), UNKNOWN);
        Due.is("34 no card", x.wrong(-1, 0), UNKNOWN);
        x.unweave();
        x.pick(3, 0);
        Due.is("33 what was unwoven was not", x.wrongs(0), 2);
        x.unweave();
        x.flip(1);
        x.pick(3, 0);
        x.unweave();
        Due.is("33 flipped ahead of the first pick", x.wrongs(1), STATE);
        TurnedCards tall = new TurnedCards();
        tall.cards(1);
        tall.rule(0, 30);
        picks(tall, 60, 0, 1);
        Due.is("33 thirty picks of sixty", tall.wrongs(0), 60);
        Due.is("34 the last", tall.wrong(0, 59), 292);
        Due.is("34 no more", tall.wrong(0, 60), NONE);
        tall.way(0, 1);
        Due.is("33 changes nothing", tall.turn(29, 0), 1);
    }

    private static void promise35() {
        TurnedCards x = new TurnedCards();
        x.cards(3);
        x.paint(0, 0, 0);
        x.paint(0, 0, 1);
        x.paint(29, 2, 1);
        x.paint(7, 1, 1);
        x.paint(7, 1, NONE);
        x.way(2, 1);
        x.flip(1);
        x.thread(2, 0, 7);
        x.thread(1, 3, 0);
        x.pick(7, 0);
        Due.is("35 cards", x.count(0), 3);
        Due.is("35 picks", x.count(1), 1);
        Due.is("35 in the picture", x.count(2), 2);
        Due.is("35 Z", x.count(3), 2);
        Due.is("35 colours", x.count(4), 5);
        Due.is("35 what 5", x.count(5), BAD);
        Due.is("35 what -1", x.count(-1), BAD);
        x.cards(1);
        for (int t = 0; t < 4; t++) {
            x.thread(0, t, 7);
        }
        Due.is("35 one colour", x.count(4), 1);
        x.flip(0);
        Due.is("35 the first card is Z", x.count(3), 1);
    }

    /** The widest band, so that no call forgets the last card or looks behind it. */
    private static void sixteenCards() {
        TurnedCards x = new TurnedCards();
        x.cards(16);
        x.pack(15, 3);
        x.paint(0, 15, 2);
        x.paint(0, 0, 3);
        x.paint(29, 15, 2);
        Due.is("25 sixteen", x.rule(1, 0), 3);
        Due.is("30 sixteen", x.weave(), 1);
        Due.is("30 the last card", x.turn(0, 15), 1);
        Due.is("26 sixteen", x.unlike(), 0);
        Due.is("10 sixteen", x.packs(2, 2, 2, 1), 2);
        Due.is("10 the last card", x.about(15, 2), 98);
        Due.is("21 the last card", x.worst(true), 15);
        Due.is("22 the last card", x.going(3, 0), 2);
        Due.is("23 sixteen", x.evens(0), 2);
        Due.is("18 sixteen", x.repeat(), 2);
        Due.is("20 sixteen", x.rows(), 2);
        Due.is("19 sixteen", x.is(0), 0);
        Due.is("19 sixteen", x.is(1), 0);
        Due.is("17 sixteen", x.many(0, 3), 15);
        Due.is("35 sixteen", x.count(2), 3);
        Due.is("11 sixteen", x.unweave(), 1);
        Due.is("11 the last card", x.about(15, 2), 99);
        x.paint(0, 15, 7);
        Due.is("26 the last card", x.unlike(), 1);
        Due.is("30 the last card has none", x.weave(), NONE);
    }
}
