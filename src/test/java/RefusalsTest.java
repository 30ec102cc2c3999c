import java.util.function.IntPredicate;
import java.util.function.Supplier;
import java.util.function.ToIntFunction;

/**
 * Part 6 of the terms, for each call of the face and in bands of several kinds: the last value of
 * each argument that is taken and the first that is refused, on both sides; of several refusals
 * the one that is told first; and behind each refused call the band is as it was.
 */
public final class RefusalsTest {
    private static final int UNKNOWN = TurnedCards.UNKNOWN, BAD = TurnedCards.BAD,
            STATE = TurnedCards.STATE, FULL = TurnedCards.FULL, NONE = TurnedCards.NONE;

    /** A call with one of its arguments left open. */
    private interface Open {
        int call(TurnedCards x, int value);
    }

    private final String kind;
    private final Supplier<TurnedCards> made;
    private final int n;
    private final int picks;
    private final int height;
    private final String asMade;

    private RefusalsTest(String kind, Supplier<TurnedCards> made) {
        this.kind = kind;
        this.made = made;
        TurnedCards x = made.get();
        n = x.count(0);
        picks = x.count(1);
        height = x.rule(0, 1);
        asMade = Whole.told(made);
    }

    public static void main(String[] args) {
        new RefusalsTest("new", TurnedCards::new).arguments();
        new RefusalsTest("one card", () -> cards(1)).arguments();
        new RefusalsTest("sixteen cards", () -> cards(16)).arguments();
        new RefusalsTest("fewer cards than before", RefusalsTest::fewerCards).arguments();
        new RefusalsTest("painted, not woven", RefusalsTest::painted).arguments();
        new RefusalsTest("woven", RefusalsTest::woven).arguments();
        new RefusalsTest("full", RefusalsTest::full).arguments();
        new RefusalsTest("all unwoven", RefusalsTest::allUnwoven).arguments();
        orderOfCards();
        orderOfPicks();
        orderOfBandAndEvens();
        orderOfPictures();
        stateOfThreadAndWay();
        stateOfUnweave();
        fullOfPickPacksAndWeave();
        noneOfWeave();
        stateOfThreading();
        stateOfWrongs();
        Due.end();
    }

    // ---- bands of several kinds

    private static TurnedCards cards(int n) {
        TurnedCards x = new TurnedCards();
        x.cards(n);
        return x;
    }

    private static TurnedCards fewerCards() {
        TurnedCards x = cards(16);
        x.pick(0xffff, 0);
        x.paint(0, 15, 1);
        x.cards(3);
        return x;
    }

    private static TurnedCards painted() {
        TurnedCards x = cards(5);
        x.thread(0, 3, 7);
        x.way(1, 1);
        x.flip(2);
        x.pack(3, 3);
        x.rule(0, 4);
        x.rule(1, 1);
        x.paint(0, 0, 7);
        x.paint(3, 4, 2);
        x.paint(29, 4, 6);
        return x;
    }

    private static TurnedCards woven() {
        TurnedCards x = painted();
        x.pack(4, 1);
        x.pick(9, 2);
        x.flip(3);
        x.packs(0, 1, 2, 2);
        x.pick(0, 0);
        x.pick(5, 8);
        x.flip(1);
        x.flip(1);
        return x;
    }

    private static TurnedCards full() {
        TurnedCards x = painted();
        for (int p = 0; p < 60; p++) {
            x.pick(p % 2 == 0 ? 1 : 3, p % 3 == 0 ? 4 : 8);
        }
        return x;
    }

    private static TurnedCards allUnwoven() {
        TurnedCards x = woven();
        while (x.count(1) > 0) {
            x.unweave();
        }
        return x;
    }

    // ---- the last value that is taken, the first that is refused

    private void arguments() {
        argumentsOfCards();
        argumentsOfPick();
        argumentsOfPacks();
        argumentsOfFaces();
        argumentsOfBand();
        argumentsOfPictures();
        argumentsOfPlans();
    }

    private void argumentsOfCards() {
        range("2 cards", 1, 16, BAD, (x, v) -> x.cards(v));
        card("3 thread", (x, v) -> x.thread(v, 0, 1));
        range("3 thread", 0, 3, UNKNOWN, (x, v) -> x.thread(n - 1, v, 1));
        range("3 colour", 0, 7, BAD, (x, v) -> x.thread(n - 1, 3, v));
        card("4 way", (x, v) -> x.way(v, 1));
        range("4 way", 0, 1, BAD, (x, v) -> x.way(n - 1, v));
        card("5 flip", (x, v) -> x.flip(v));
        card("6 pack", (x, v) -> x.pack(v, 2));
        range("6 pack", 0, 3, UNKNOWN, (x, v) -> x.pack(n - 1, v));
        card("7 about", (x, v) -> x.about(v, 2));
        range("7 what", 0, 4, BAD, (x, v) -> x.about(n - 1, v));
        card("8 at", (x, v) -> x.at(v, 3));
        range("8 place", 0, 3, BAD, (x, v) -> x.at(n - 1, v));
    }

    private void argumentsOfPick() {
        int all = (1 << n) - 1;
        for (int bit = 0; bit < 32; bit++) {
            int set = 1 << bit;
            boolean taken = bit < n;
            one("9 forward, bit " + bit, set, taken, BAD, (x, v) -> x.pick(v, 0));
            one("9 back, bit " + bit, set, taken, BAD, (x, v) -> x.pick(0, v));
            one("9 in both, bit " + bit, set, false, BAD, (x, v) -> x.pick(v, v));
            one("9 one of all in both, bit " + bit, set, false, BAD, (x, v) -> x.pick(v, all));
        }
        one("9 none", 0, true, BAD, (x, v) -> x.pick(v, v));
        one("9 all forward", all, true, BAD, (x, v) -> x.pick(v, 0));
        one("9 all back", all, true, BAD, (x, v) -> x.pick(0, v));
        one("9 one forward, the others back", 1, true, BAD, (x, v) -> x.pick(v, all - v));
        one("9 more than all", all + 1, false, BAD, (x, v) -> x.pick(v, 0));
        one("9 each bit", -1, false, BAD, (x, v) -> x.pick(v, 0));
        one("9 each bit", -1, false, BAD, (x, v) -> x.pick(0, v));
    }

    private void argumentsOfPacks() {
        range("10 one", 0, 2, BAD, (x, v) -> x.packs(v, 0, 0, 0));
        range("10 two", 0, 2, BAD, (x, v) -> x.packs(0, v, 0, 0));
        range("10 three", 0, 2, BAD, (x, v) -> x.packs(0, 0, v, 0));
        range("10 four", 0, 2, BAD, (x, v) -> x.packs(0, 0, 0, v));
    }

    private void argumentsOfFaces() {
        int some = picks > 0 ? n : 0;
        pickAndCard("12 turn", some, (x, v) -> x.turn(v, n - 1), (x, v) -> x.turn(picks - 1, v));
        for (boolean back : new boolean[] {false, true}) {
            pickAndCard("13 shows", some, (x, v) -> x.shows(v, n - 1, back), (x, v) -> x.shows(picks - 1, v, back));
            pickAndCard("14 shown", some, (x, v) -> x.shown(v, n - 1, back), (x, v) -> x.shown(picks - 1, v, back));
        }
        pickAndCard("15 slant", some, (x, v) -> x.slant(v, n - 1), (x, v) -> x.slant(picks - 1, v));
        card("16 longest", (x, v) -> x.longest(v));
        range("17 pick", 0, picks - 1, UNKNOWN, (x, v) -> x.many(v, 7));
        if (picks > 0) {
            range("17 colour", 0, 7, BAD, (x, v) -> x.many(picks - 1, v));
        }
    }

    /** While nothing is woven there is no pick, and each card of it is unknown. */
    private void pickAndCard(String what, int some, Open ofPick, Open ofCard) {
        range(what + ", pick", 0, picks - 1, UNKNOWN, ofPick);
        range(what + ", card", 0, some - 1, UNKNOWN, ofCard);
    }

    private void argumentsOfBand() {
        range("19 is", 0, 1, BAD, (x, v) -> x.is(v));
        // With a limit of 60 no going is wanted, so that none looks like a refusal.
        range("22 pack", 0, 3, UNKNOWN, (x, v) -> x.going(v, 60));
        // No card of these bands is in pack 2.
        range("22 limit", 0, 60, BAD, (x, v) -> x.going(2, v));
        one("22 limit of a pack with cards", 60, true, BAD, (x, v) -> x.going(0, v));
        one("22 limit of a pack with cards", 61, false, BAD, (x, v) -> x.going(0, v));
        one("22 limit of a pack with cards", -1, false, BAD, (x, v) -> x.going(0, v));
        range("23 limit", 0, 60, BAD, (x, v) -> x.evens(v));
    }

    private void argumentsOfPictures() {
        range("24 row", 0, 29, BAD, (x, v) -> x.paint(v, n - 1, 7));
        card("24 card", (x, v) -> x.paint(29, v, 7));
        range("24 colour", 0, 7, BAD, v -> v != NONE, (x, v) -> x.paint(29, n - 1, v));
        one("24 any", NONE, true, BAD, (x, v) -> x.paint(29, n - 1, v));
        one("24 next to NONE", NONE - 1, false, BAD, (x, v) -> x.paint(29, n - 1, v));
        one("24 next to NONE", NONE + 1, false, BAD, (x, v) -> x.paint(29, n - 1, v));
        range("25 HEIGHT", 1, 30, BAD, (x, v) -> x.rule(0, v));
        range("25 FLOATS", 0, 9, BAD, (x, v) -> x.rule(1, v));
        range("25 what", 0, 1, BAD, (x, v) -> x.rule(v, 1));
        range("25 what", 0, 1, BAD, (x, v) -> x.rule(v, 9));
        range("35 count", 0, 4, BAD, (x, v) -> x.count(v));
    }

    private void argumentsOfPlans() {
        card("27 idles", (x, v) -> x.idles(v));
        card("28 turning", (x, v) -> x.turning(v, height - 1));
        range("28 i", 0, height - 1, BAD, (x, v) -> x.turning(n - 1, v));
        card("29 behind", (x, v) -> x.behind(v));
        card("31 threading", (x, v) -> x.threading(v, 3));
        range("31 thread", 0, 3, UNKNOWN, (x, v) -> x.threading(n - 1, v));
        card("32 quarrel", (x, v) -> x.quarrel(v));
        card("33 wrongs", (x, v) -> x.wrongs(v));
        card("34 wrong", (x, v) -> x.wrong(v, 0));
    }

    private void card(String what, Open call) {
        range(what + ", card", 0, n - 1, UNKNOWN, call);
    }

    private void range(String what, int least, int most, int refusal, Open call) {
        range(what, least, most, refusal, v -> true, call);
    }

    /** Of the values outside only those that are asked for: some have a meaning of their own. */
    private void range(String what, int least, int most, int refusal, IntPredicate outside, Open call) {
        for (int v = least; v <= most; v++) {
            one(what + " " + v, v, true, refusal, call);
        }
        int[] far = {least - 1, most + 1, NONE, NONE + 100, 32, 64, 256, 65536, Integer.MIN_VALUE, Integer.MAX_VALUE};
        for (int v : far) {
            if ((v < least || v > most) && outside.test(v)) {
                one(what + " " + v, v, false, refusal, call);
            }
        }
    }

    private void one(String what, int value, boolean taken, int refusal, Open call) {
        int answer = call.call(made.get(), value);
        String where = kind + ": " + what;
        if (taken) {
            Due.holds(where + " is taken, answered " + answer + ": this", answer != UNKNOWN && answer != BAD);
        } else {
            Due.is(where, answer, refusal);
            String behind = Whole.told(Whole.behind(made, x -> call.call(x, value)));
            Due.holds(where + " is refused and changes nothing: this", behind.equals(asMade));
        }
    }

    // ---- of several refusals the one that is told first

    private static void refused(String what, Supplier<TurnedCards> made, ToIntFunction<TurnedCards> call, int want) {
        Whole.refused(what, made, call, want);
    }

    /** Told as UNKNOWN; BAD; STATE. */
    private static void orderOfCards() {
        Supplier<TurnedCards> free = RefusalsTest::painted;
        Supplier<TurnedCards> woven = RefusalsTest::woven;
        for (int none : new int[] {-1, 5}) {
            refused("3 no card, bad colour", free, x -> x.thread(none, 0, 8), UNKNOWN);
            refused("3 no card, woven", woven, x -> x.thread(none, 0, 0), UNKNOWN);
            refused("3 no card, no thread, bad colour, woven", woven, x -> x.thread(none, 4, -1), UNKNOWN);
            refused("4 no card, bad way", free, x -> x.way(none, 2), UNKNOWN);
            refused("4 no card, woven", woven, x -> x.way(none, 0), UNKNOWN);
            refused("4 no card, bad way, woven", woven, x -> x.way(none, -1), UNKNOWN);
            refused("6 no card, no pack", woven, x -> x.pack(none, 4), UNKNOWN);
            refused("7 no card, bad what", woven, x -> x.about(none, 5), UNKNOWN);
            refused("7 no card, bad what", woven, x -> x.about(none, -1), UNKNOWN);
            refused("8 no card, bad place", woven, x -> x.at(none, 4), UNKNOWN);
            refused("8 no card, bad place", woven, x -> x.at(none, -1), UNKNOWN);
        }
        for (int none : new int[] {-1, 4}) {
            refused("3 no thread, bad colour", free, x -> x.thread(0, none, 8), UNKNOWN);
            refused("3 no thread, woven", woven, x -> x.thread(0, none, 0), UNKNOWN);
        }
        for (int bad : new int[] {-1, 8, NONE}) {
            refused("3 bad colour, woven", woven, x -> x.thread(0, 0, bad), BAD);
        }
        for (int bad : new int[] {-1, 2}) {
            refused("4 bad way, woven", woven, x -> x.way(0, bad), BAD);
        }
    }

    /** Told as BAD; FULL, and as UNKNOWN: pick; BAD: colour. */
    private static void orderOfPicks() {
        Supplier<TurnedCards> full = RefusalsTest::full;
        refused("9 no card forward, full", full, x -> x.pick(32, 0), BAD);
        refused("9 no card back, full", full, x -> x.pick(0, 32), BAD);
        refused("9 in both, full", full, x -> x.pick(1, 1), BAD);
        refused("10 bad one, full", full, x -> x.packs(3, 0, 0, 0), BAD);
        refused("10 bad two, full", full, x -> x.packs(0, -1, 0, 0), BAD);
        refused("10 bad three, full", full, x -> x.packs(0, 0, 3, 0), BAD);
        refused("10 bad four, full", full, x -> x.packs(0, 0, 0, -1), BAD);
        for (int bad : new int[] {-1, 8}) {
            refused("17 no pick, bad colour", full, x -> x.many(60, bad), UNKNOWN);
            refused("17 no pick, bad colour", full, x -> x.many(-1, bad), UNKNOWN);
            refused("17 nothing woven, bad colour", TurnedCards::new, x -> x.many(0, bad), UNKNOWN);
        }
    }

    /** Told as UNKNOWN; BAD: limit. NONE is no refusal, it comes behind both. */
    private static void orderOfBandAndEvens() {
        Supplier<TurnedCards> apart = () -> {
            TurnedCards x = cards(2);
            x.pick(1, 2);
            return x;
        };
        for (int bad : new int[] {-1, 61}) {
            refused("22 no pack, bad limit", apart, x -> x.going(4, bad), UNKNOWN);
            refused("22 no pack, bad limit", apart, x -> x.going(-1, bad), UNKNOWN);
            refused("22 bad limit, no going", apart, x -> x.going(0, bad), BAD);
            refused("22 bad limit, no cards in the pack", apart, x -> x.going(3, bad), BAD);
            refused("23 bad limit, no going", apart, x -> x.evens(bad), BAD);
        }
        refused("22 no pack, no going", apart, x -> x.going(4, 0), UNKNOWN);
        refused("22 no going", apart, x -> x.going(0, 0), NONE);
        refused("23 no going", apart, x -> x.evens(0), NONE);
    }

    /** Told as UNKNOWN: card; BAD: row, colour; for turnings as UNKNOWN; BAD: i. */
    private static void orderOfPictures() {
        Supplier<TurnedCards> woven = RefusalsTest::woven;
        for (int none : new int[] {-1, 5}) {
            refused("24 no card, bad row", woven, x -> x.paint(30, none, 0), UNKNOWN);
            refused("24 no card, bad row", woven, x -> x.paint(-1, none, 0), UNKNOWN);
            refused("24 no card, bad colour", woven, x -> x.paint(0, none, 8), UNKNOWN);
            refused("24 no card, bad row and colour", woven, x -> x.paint(30, none, -1), UNKNOWN);
            refused("28 no card, bad i", woven, x -> x.turning(none, 4), UNKNOWN);
            refused("28 no card, bad i", woven, x -> x.turning(none, -1), UNKNOWN);
            refused("31 no card, no thread", woven, x -> x.threading(none, 4), UNKNOWN);
        }
        refused("24 bad row and colour", woven, x -> x.paint(30, 0, 8), BAD);
        Supplier<TurnedCards> never = () -> {
            TurnedCards x = woven();
            x.paint(0, 0, 6);
            return x;
        };
        refused("27 there are none", never, x -> x.idles(0), NONE);
        refused("28 there are none", never, x -> x.turning(0, 3), NONE);
        refused("28 bad i, there are none", never, x -> x.turning(0, 4), BAD);
        refused("28 bad i, there are none", never, x -> x.turning(0, -1), BAD);
        refused("29 there are none", never, x -> x.behind(0), NONE);
    }

    // ---- STATE, FULL and NONE, each on both sides of what brings it

    /** 'STATE: something is woven': not ahead of the first pick, not behind the last unwoven one. */
    private static void stateOfThreadAndWay() {
        Supplier<TurnedCards> one = () -> {
            TurnedCards x = painted();
            x.pick(0, 0);
            return x;
        };
        refused("3 one pick, all idle", one, x -> x.thread(4, 3, 5), STATE);
        refused("4 one pick, all idle", one, x -> x.way(4, 1), STATE);
        refused("3 the colour it has, woven", one, x -> x.thread(0, 3, 7), STATE);
        refused("4 as it is threaded, woven", one, x -> x.way(1, 1), STATE);
        refused("3 sixty picks", RefusalsTest::full, x -> x.thread(0, 0, 0), STATE);
        refused("4 sixty picks", RefusalsTest::full, x -> x.way(0, 0), STATE);
        TurnedCards x = one.get();
        x.unweave();
        Due.is("3 unwoven", x.thread(0, 3, 5), 7);
        Due.is("4 unwoven", x.way(1, 0), 1);
        Due.is("3 and was changed", x.thread(0, 3, 5), 5);
        Due.is("4 and was changed", x.about(1, 0), 0);
        TurnedCards flipped = new TurnedCards();
        flipped.flip(0);
        flipped.paint(0, 0, 1);
        Due.is("3 flipped and painted is not woven", flipped.thread(0, 0, 6), 0);
        Due.is("4 flipped and painted is not woven", flipped.way(0, 0), 1);
    }

    /** 'STATE: there is none': what was flipped stays so, as there is no pick to take back. */
    private static void stateOfUnweave() {
        refused("11 nothing woven", RefusalsTest::painted, x -> x.unweave(), STATE);
        refused("11 all unwoven", RefusalsTest::allUnwoven, x -> x.unweave(), STATE);
        TurnedCards x = new TurnedCards();
        x.flip(0);
        Due.is("11 flipped, nothing woven", x.unweave(), STATE);
        Due.is("11 it stays flipped", x.about(0, 4), 1);
        Due.is("11 and threaded", x.about(0, 0), 1);
        Due.is("11 and its places", x.at(0, 0), 1);
        x.pick(0, 0);
        Due.is("11 one pick is taken", x.unweave(), 0);
        Due.is("11 then there is none", x.unweave(), STATE);
    }

    /** 'PICKS 0, 1, .. (60 at most)': the sixtieth is taken by each call that weaves, no other. */
    private static void fullOfPickPacksAndWeave() {
        Supplier<TurnedCards> full = RefusalsTest::full;
        refused("9 full", full, x -> x.pick(31, 0), FULL);
        refused("9 full, all idle", full, x -> x.pick(0, 0), FULL);
        refused("10 full", full, x -> x.packs(0, 1, 2, 0), FULL);
        refused("10 full, all idle", full, x -> x.packs(2, 2, 2, 2), FULL);
        Supplier<TurnedCards> room = () -> {
            TurnedCards x = new TurnedCards();
            for (int p = 0; p < 59; p++) {
                x.pick(15, 0);
            }
            return x;
        };
        Due.is("9 the sixtieth", room.get().pick(15, 0), 60);
        Due.is("10 the sixtieth", room.get().packs(0, 0, 0, 0), 60);
        Due.is("30 the sixtieth", room.get().weave(), 60);
        refused("30 two rows for one pick", () -> heightened(room.get(), 2), x -> x.weave(), FULL);
        Supplier<TurnedCards> tall = () -> {
            TurnedCards x = cards(2);
            x.rule(0, 30);
            x.weave();
            return x;
        };
        Due.is("30 thirty and thirty", tall.get().weave(), 60);
        refused("30 thirty-one and thirty", () -> oneMore(tall.get()), x -> x.weave(), FULL);
        Due.is("30 thirty-one and twenty-nine", heightened(oneMore(tall.get()), 29).weave(), 60);
    }

    private static TurnedCards oneMore(TurnedCards x) {
        x.pick(0, 0);
        return x;
    }

    private static TurnedCards heightened(TurnedCards x, int height) {
        x.rule(0, height);
        return x;
    }

    /** 'NONE: some CARD has none; else FULL': whichever card it is, nothing at all is woven. */
    private static void noneOfWeave() {
        for (int last = 0; last < 16; last += 5) {
            int card = last;
            Supplier<TurnedCards> made = () -> {
                TurnedCards x = cards(16);
                x.rule(0, 30);
                x.paint(29, card, 6);
                return x;
            };
            refused("30 card " + card + " has none", made, x -> x.weave(), NONE);
            refused("30 NONE ahead of FULL, card " + card, () -> {
                TurnedCards x = made.get();
                for (int p = 0; p < 60; p++) {
                    x.pick(0, 0xffff);
                }
                return x;
            }, x -> x.weave(), NONE);
        }
    }

    /** Told as UNKNOWN; STATE: there is a quarrel, of whichever thread. */
    private static void stateOfThreading() {
        Supplier<TurnedCards> made = () -> {
            TurnedCards x = cards(2);
            x.rule(0, 2);
            x.pick(3, 0);
            x.pick(0, 0);
            x.paint(0, 0, 1);
            x.paint(1, 0, 2);
            return x;
        };
        for (int t = 0; t < 4; t++) {
            int thread = t;
            refused("31 a quarrel, thread " + t, made, x -> x.threading(0, thread), STATE);
            Due.is("31 no quarrel of the other card, thread " + t, made.get().threading(1, t), NONE);
        }
        refused("31 no thread, a quarrel", made, x -> x.threading(0, 4), UNKNOWN);
        refused("31 no thread, a quarrel", made, x -> x.threading(0, -1), UNKNOWN);
        refused("31 no card, a quarrel", made, x -> x.threading(2, 0), UNKNOWN);
        refused("32 no card, a quarrel", made, x -> x.quarrel(2), UNKNOWN);
        TurnedCards x = made.get();
        x.paint(1, 0, NONE);
        Due.is("31 no quarrel any more", x.threading(0, 3), 1);
    }

    /** Told as UNKNOWN; STATE: it was flipped. NONE is no refusal: STATE is told ahead of it. */
    private static void stateOfWrongs() {
        Supplier<TurnedCards> made = () -> {
            TurnedCards x = cards(2);
            x.pick(3, 0);
            x.flip(1);
            return x;
        };
        refused("33 flipped", made, x -> x.wrongs(1), STATE);
        refused("34 flipped", made, x -> x.wrong(1, 0), STATE);
        for (int i : new int[] {-1, 2, 60, Integer.MIN_VALUE, Integer.MAX_VALUE}) {
            refused("34 flipped, i " + i, made, x -> x.wrong(1, i), STATE);
            refused("34 never flipped, i " + i, made, x -> x.wrong(0, i), NONE);
            refused("34 no card, i " + i, made, x -> x.wrong(2, i), UNKNOWN);
            refused("34 no card, i " + i, made, x -> x.wrong(-1, i), UNKNOWN);
        }
        Due.is("33 never flipped", made.get().wrongs(0), 2);
        Due.is("34 the first", made.get().wrong(0, 0), 1);
        Due.is("34 the last", made.get().wrong(0, 1), 2);
        TurnedCards x = made.get();
        x.unweave();
        Due.is("33 what was unwoven was not flipped", x.wrongs(1), 0);
        Due.is("34 what was unwoven was not flipped", x.wrong(1, 0), NONE);
    }
}
