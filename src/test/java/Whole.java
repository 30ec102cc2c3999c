import java.util.function.Supplier;
import java.util.function.ToIntFunction;

/**
 * All that can be asked of a band, as one text, so that two bands can be held against each other.
 * As an object is made for 512 calls, and some things are only told by a call that changes them,
 * the band is made anew again and again: by SITTING asks, and ahead of each such thing.
 */
final class Whole {
    private static final int ROWS = 30, COLOURS = 8, THREADS = 4, ABOUTS = 5, SITTING = 200;

    private final Supplier<TurnedCards> made;
    private final StringBuilder text = new StringBuilder();
    private TurnedCards x;
    private int asked;

    private Whole(Supplier<TurnedCards> made) {
        this.made = made;
        sitDown();
    }

    static String told(Supplier<TurnedCards> made) {
        Whole all = new Whole(made);
        int n = all.x.count(0);
        int picks = all.x.count(1);
        all.sitDown();
        all.band();
        all.cardsAsTheyLie(n);
        all.faces(n, picks);
        all.plans(n);
        all.woven(n);
        all.pictureAndRules(n);
        all.unwoven(n, picks);
        all.colours(n, picks);
        return all.text.toString();
    }

    /** The call is refused as told, and the band is as if it had not been made. */
    static void refused(String what, Supplier<TurnedCards> made, ToIntFunction<TurnedCards> call, int want) {
        Due.is(what, call.applyAsInt(made.get()), want);
        Due.holds(what + " changes nothing: this", told(behind(made, call)).equals(told(made)));
    }

    /** The band behind one more call. */
    static Supplier<TurnedCards> behind(Supplier<TurnedCards> made, ToIntFunction<TurnedCards> call) {
        return () -> {
            TurnedCards x = made.get();
            call.applyAsInt(x);
            return x;
        };
    }

    private void sitDown() {
        x = made.get();
        asked = 0;
    }

    private void part(String name) {
        text.append('\n').append(name);
    }

    private void ask(ToIntFunction<TurnedCards> question) {
        if (asked == SITTING) {
            sitDown();
        }
        asked++;
        text.append(' ').append(question.applyAsInt(x));
    }

    private void band() {
        part("counts");
        for (int what = 0; what <= 4; what++) {
            int w = what;
            ask(b -> b.count(w));
        }
        part("band");
        ask(b -> b.repeat());
        ask(b -> b.is(0));
        ask(b -> b.is(1));
        ask(b -> b.rows());
        ask(b -> b.worst(false));
        ask(b -> b.worst(true));
        ask(b -> b.unlike());
        part("evened out");
        for (int limit : new int[] {0, 1, 3, 30, 60}) {
            for (int pack = 0; pack <= 3; pack++) {
                int p = pack;
                ask(b -> b.going(p, limit));
            }
            ask(b -> b.evens(limit));
        }
    }

    private static int asksOfCards(int n) {
        return n * (ABOUTS + 1 + THREADS);
    }

    private void cardsAsTheyLie(int n) {
        for (int card = 0; card < n; card++) {
            int c = card;
            part("card");
            for (int what = 0; what < ABOUTS; what++) {
                int w = what;
                ask(b -> b.about(c, w));
            }
            ask(b -> b.longest(c));
            for (int place = 0; place < THREADS; place++) {
                int p = place;
                ask(b -> b.at(c, p));
            }
        }
    }

    private void faces(int n, int picks) {
        for (int pick = 0; pick < picks; pick++) {
            int p = pick;
            for (int card = 0; card < n; card++) {
                int c = card;
                part("pick");
                ask(b -> b.turn(p, c));
                ask(b -> b.slant(p, c));
                ask(b -> b.shown(p, c, false));
                ask(b -> b.shown(p, c, true));
                ask(b -> b.shows(p, c, false));
                ask(b -> b.shows(p, c, true));
            }
            part("many");
            for (int colour = 0; colour < COLOURS; colour++) {
                int k = colour;
                ask(b -> b.many(p, k));
            }
        }
    }

    private void plans(int n) {
        for (int card = 0; card < n; card++) {
            int c = card;
            part("best");
            ask(b -> b.idles(c));
            ask(b -> b.behind(c));
            for (int row = 0; row < ROWS; row++) {
                int r = row;
                ask(b -> b.turning(c, r));
            }
            part("threading");
            for (int thread = 0; thread < THREADS; thread++) {
                int t = thread;
                ask(b -> b.threading(c, t));
            }
            ask(b -> b.quarrel(c));
            part("wrong");
            ask(b -> b.wrongs(c));
            ask(b -> b.wrong(c, 0));
            ask(b -> b.wrong(c, 1));
            ask(b -> b.wrong(c, 5));
        }
    }

    private void woven(int n) {
        sitDown();
        part("weave");
        ask(b -> b.weave());
        cardsAsTheyLie(n);
    }

    private void pictureAndRules(int n) {
        sitDown();
        part("rules");
        ask(b -> b.rule(0, 1));
        ask(b -> b.rule(1, 3));
        part("picture");
        for (int card = 0; card < n; card++) {
            int c = card;
            for (int row = 0; row < ROWS; row++) {
                int r = row;
                ask(b -> b.paint(r, c, TurnedCards.NONE));
            }
        }
    }

    private void sitDownBehind(int unwoven) {
        sitDown();
        for (int p = 0; p < unwoven; p++) {
            x.unweave();
        }
    }

    private void unwoven(int n, int picks) {
        sitDown();
        for (int p = 0; p < picks; p++) {
            if (asked + 1 + asksOfCards(n) > SITTING) {
                sitDownBehind(p);
            }
            part("unweave");
            ask(b -> b.unweave());
            cardsAsTheyLie(n);
        }
    }

    private void colours(int n, int picks) {
        sitDownBehind(picks);
        part("nothing to unweave");
        ask(b -> b.unweave());
        part("colours");
        for (int card = 0; card < n; card++) {
            int c = card;
            for (int thread = 0; thread < THREADS; thread++) {
                int t = thread;
                ask(b -> b.thread(c, t, 0));
            }
        }
    }
}
