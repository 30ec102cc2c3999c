/** Promises 1 to 8: a new object, and what is asked of cards. */
public final class CardsTest {
    private static final int UNKNOWN = TurnedCards.UNKNOWN, BAD = TurnedCards.BAD,
            STATE = TurnedCards.STATE, NONE = TurnedCards.NONE;

    public static void main(String[] args) {
        promise1();
        promise2();
        promise2Refuses();
        promise3();
        promise4();
        promise5();
        promise6();
        promise7();
        promise8();
        Due.end();
    }

    private static int[] places(TurnedCards x, int card) {
        return new int[] {x.at(card, 0), x.at(card, 1), x.at(card, 2), x.at(card, 3)};
    }

    private static int[] abouts(TurnedCards x, int card) {
        return new int[] {x.about(card, 0), x.about(card, 1), x.about(card, 2), x.about(card, 3), x.about(card, 4)};
    }

    private static int[] counts(TurnedCards x) {
        return new int[] {x.count(0), x.count(1), x.count(2), x.count(3), x.count(4)};
    }

    private static void asAtFirst(String when, TurnedCards x, int n) {
        Due.row(when + ": counts", counts(x), n, 0, 0, 0, 4);
        for (int c = 0; c < n; c++) {
            Due.row(when + ": about card " + c, abouts(x, c), 0, 0, 100, 0, 0);
            Due.row(when + ": places of card " + c, places(x, c), 0, 1, 2, 3);
            for (int j = 0; j < 4; j++) {
                Due.is(when + ": colour of thread " + j, x.thread(c, j, j), j);
            }
            Due.is(when + ": picture", x.paint(29, c, NONE), NONE);
        }
        Due.is(when + ": the card behind the last", x.about(n, 0), UNKNOWN);
        Due.is(when + ": HEIGHT", x.rule(0, 1), 1);
        Due.is(when + ": FLOATS", x.rule(1, 3), 3);
        Due.is(when + ": nothing to unweave", x.unweave(), STATE);
    }

    private static void promise1() {
        asAtFirst("1 new", new TurnedCards(), 4);
    }

    private static void promise2() {
        TurnedCards x = new TurnedCards();
        Due.is("2 sixteen", x.cards(16), 4);
        asAtFirst("2 sixteen", x, 16);
        Due.is("2 one", x.cards(1), 16);
        asAtFirst("2 one", x, 1);
        Due.is("2 three", x.cards(3), 1);
        for (int c = 0; c < 3; c++) {
            x.thread(c, 1, 7);
            x.way(c, 1);
            x.flip(c);
            x.pack(c, 3);
            x.paint(29, c, 5);
        }
        x.rule(0, 30);
        x.rule(1, 9);
        x.pick(7, 0);
        x.pick(0, 0);
        Due.is("2 as many again", x.cards(3), 3);
        asAtFirst("2 again", x, 3);
        x.pick(7, 0);
        x.flip(2);
        Due.is("2 fewer", x.cards(2), 3);
        Due.is("2 more", x.cards(3), 2);
        asAtFirst("2 more", x, 3);
    }

    private static void promise2Refuses() {
        TurnedCards x = new TurnedCards();
        x.way(3, 1);
        x.pick(1, 0);
        x.paint(0, 0, 4);
        for (int n : new int[] {0, 17, -1, Integer.MIN_VALUE, Integer.MAX_VALUE, NONE}) {
            Due.is("2 cards(" + n + ")", x.cards(n), BAD);
        }
        Due.row("2 refused changes nothing", counts(x), 4, 1, 1, 1, 4);
    }

    private static void promise3() {
        TurnedCards x = new TurnedCards();
        Due.is("3 what it was at first", x.thread(3, 3, 7), 3);
        Due.is("3 what it was", x.thread(3, 3, 0), 7);
        Due.is("3 of that thread alone", x.thread(3, 2, 2), 2);
        Due.is("3 of that card alone", x.thread(2, 3, 3), 3);
        Due.is("3 card ahead of colour", x.thread(4, 0, 8), UNKNOWN);
        Due.is("3 no card", x.thread(-1, 0, 0), UNKNOWN);
        Due.is("3 thread ahead of colour", x.thread(0, 4, 8), UNKNOWN);
        Due.is("3 no thread", x.thread(0, -1, 0), UNKNOWN);
        Due.is("3 colour 8", x.thread(3, 3, 8), BAD);
        Due.is("3 colour -1", x.thread(3, 3, -1), BAD);
        Due.is("3 NONE is no colour", x.thread(3, 3, NONE), BAD);
        Due.is("3 refused changes nothing", x.thread(3, 3, 6), 0);
        x.flip(3);
        Due.is("3 a thread keeps its number through a flip", x.thread(3, 3, 6), 6);
        x.pick(8, 0);
        Due.is("3 woven", x.thread(3, 3, 1), STATE);
        Due.is("3 UNKNOWN ahead of STATE", x.thread(4, 3, 1), UNKNOWN);
        Due.is("3 BAD ahead of STATE", x.thread(3, 3, 8), BAD);
        // Flipped: 1 0 3 2; turned forward: thread 2 is in front.
        Due.is("3 shows", x.shows(0, 3, false), 2);
        x.unweave();
        Due.is("3 unwoven, STATE changed nothing", x.thread(3, 3, 1), 6);
    }

    private static void promise4() {
        TurnedCards x = new TurnedCards();
        Due.is("4 at first", x.way(0, 1), 0);
        Due.is("4 then", x.way(0, 1), 1);
        Due.is("4 of that card alone", x.about(1, 0), 0);
        Due.row("4 places stay", places(x, 0), 0, 1, 2, 3);
        Due.is("4 card ahead of way", x.way(4, 2), UNKNOWN);
        Due.is("4 no card", x.way(-1, 0), UNKNOWN);
        Due.is("4 way 2", x.way(0, 2), BAD);
        Due.is("4 way -1", x.way(0, -1), BAD);
        x.pick(0, 0);
        Due.is("4 woven", x.way(0, 0), STATE);
        Due.is("4 BAD ahead of STATE", x.way(0, 2), BAD);
        Due.is("4 UNKNOWN ahead of STATE", x.way(9, 0), UNKNOWN);
        Due.is("4 refused changes nothing", x.about(0, 0), 1);
        x.unweave();
        Due.is("4 unwoven", x.way(0, 0), 1);
        x.flip(0);
        Due.is("4 what a flip made it", x.way(0, 0), 1);
        Due.is("4 is no flip", x.about(0, 4), 1);
        Due.row("4 places stay as flipped", places(x, 0), 1, 0, 3, 2);
    }

    private static void promise5() {
        TurnedCards x = new TurnedCards();
        Due.is("5 Z then", x.flip(1), 1);
        Due.row("5 places", places(x, 1), 1, 0, 3, 2);
        Due.row("5 other cards", places(x, 0), 0, 1, 2, 3);
        Due.is("5 S again", x.flip(1), 0);
        Due.row("5 places again", places(x, 1), 0, 1, 2, 3);
        Due.is("5 how often", x.about(1, 4), 2);
        x.pick(2, 0);
        Due.is("5 woven too", x.flip(1), 1);
        Due.row("5 places, turned and flipped", places(x, 1), 0, 3, 2, 1);
        Due.is("5 the twist stays", x.about(1, 2), 101);
        Due.is("5 what was shown stays", x.shown(0, 1, false), 3);
        Due.is("5 the slant stays", x.slant(0, 1), 0);
        x.pick(2, 0);
        Due.is("5 forward while Z untwists", x.about(1, 2), 100);
        Due.is("5 shown behind it", x.shown(1, 1, false), 1);
        Due.is("5 slant behind it", x.slant(1, 1), 1);
        Due.is("5 no card", x.flip(4), UNKNOWN);
        Due.is("5 no card", x.flip(-1), UNKNOWN);
    }

    private static void promise6() {
        TurnedCards x = new TurnedCards();
        Due.is("6 at first", x.pack(2, 3), 0);
        Due.is("6 then", x.pack(2, 1), 3);
        Due.is("6 of that card alone", x.about(1, 1), 0);
        Due.is("6 no card", x.pack(4, 0), UNKNOWN);
        Due.is("6 no card", x.pack(-1, 0), UNKNOWN);
        Due.is("6 no pack", x.pack(2, 4), UNKNOWN);
        Due.is("6 no pack", x.pack(2, -1), UNKNOWN);
        Due.is("6 refused changes nothing", x.about(2, 1), 1);
        x.pick(15, 0);
        Due.is("6 woven too", x.pack(2, 2), 1);
        x.unweave();
        Due.is("6 a pack is not unwoven", x.about(2, 1), 2);
    }

    private static void promise7() {
        TurnedCards x = new TurnedCards();
        x.way(1, 1);
        x.pack(1, 2);
        x.pick(3, 0);
        x.pick(3, 0);
        x.pick(1, 2);
        x.pick(1, 0);
        x.pick(0, 0);
        Due.row("7 S, forward four, idle one", abouts(x, 0), 0, 0, 104, 1, 0);
        Due.row("7 Z, forward two, back one, idle two", abouts(x, 1), 1, 2, 99, 2, 0);
        Due.row("7 never turned", abouts(x, 2), 0, 0, 100, 5, 0);
        x.flip(1);
        Due.row("7 flipped", abouts(x, 1), 0, 2, 99, 2, 1);
        x.pick(0, 2);
        Due.row("7 turned on", abouts(x, 1), 0, 2, 98, 0, 1);
        Due.is("7 card ahead of what", x.about(4, 5), UNKNOWN);
        Due.is("7 no card", x.about(-1, 0), UNKNOWN);
        Due.is("7 what 5", x.about(0, 5), BAD);
        Due.is("7 what -1", x.about(0, -1), BAD);
    }

    private static void promise8() {
        TurnedCards x = new TurnedCards();
        x.pick(1, 2);
        Due.row("8 forward", places(x, 0), 3, 0, 1, 2);
        Due.row("8 back", places(x, 1), 1, 2, 3, 0);
        Due.row("8 idle", places(x, 2), 0, 1, 2, 3);
        x.pick(2, 1);
        Due.row("8 and back", places(x, 0), 0, 1, 2, 3);
        Due.row("8 and forward", places(x, 1), 0, 1, 2, 3);
        Due.is("8 card ahead of place", x.at(4, 4), UNKNOWN);
        Due.is("8 no card", x.at(-1, 0), UNKNOWN);
        Due.is("8 place 4", x.at(0, 4), BAD);
        Due.is("8 place -1", x.at(0, -1), BAD);
    }
}
