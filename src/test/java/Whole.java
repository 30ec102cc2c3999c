import java.util.function.Supplier;
import java.util.function.ToIntFunction;

/**
 * All that can be asked of a band, as one text, so that two bands can be held against each other.
 * What is only told by a call that changes something (the picture, the rules, what lies under the
 * picks, colours) is asked last: the band is used up by it.
 */
final class Whole {
    private static final int PICKS = 60, ROWS = 30;

    private final TurnedCards x;
    private final StringBuilder text = new StringBuilder();

    private Whole(TurnedCards x) {
        this.x = x;
    }

    static String told(TurnedCards x) {
        Whole all = new Whole(x);
        all.band();
        all.faces();
        all.plans();
        all.woven();
        all.pictureAndRules();
        all.unwoven();
        all.colours();
        return all.text.toString();
    }

    /** The call is refused as told, and the band is as if it had not been made. */
    static void refused(String what, Supplier<TurnedCards> made, ToIntFunction<TurnedCards> call, int want) {
        TurnedCards x = made.get();
        Due.is(what, call.applyAsInt(x), want);
        Due.holds(what + " changes nothing: this", told(x).equals(told(made.get())));
    }

    private void say(String name, int... answers) {
        text.append(name);
        for (int answer : answers) {
            text.append(' ').append(answer);
        }
        text.append('\n');
    }

    private void band() {
        say("counts", x.count(0), x.count(1), x.count(2), x.count(3), x.count(4));
        say("band", x.repeat(), x.is(0), x.is(1), x.rows(), x.worst(false), x.worst(true), x.unlike());
        for (int limit : new int[] {0, 1, 3, 30, 60}) {
            say("evened out", x.going(0, limit), x.going(1, limit), x.going(2, limit), x.going(3, limit),
                    x.evens(limit));
        }
        cardsAsTheyLie();
    }

    private void cardsAsTheyLie() {
        for (int c = 0; c < x.count(0); c++) {
            say("about", x.about(c, 0), x.about(c, 1), x.about(c, 2), x.about(c, 3), x.about(c, 4), x.longest(c));
            say("at", x.at(c, 0), x.at(c, 1), x.at(c, 2), x.at(c, 3));
        }
    }

    private void faces() {
        for (int p = 0; p < x.count(1); p++) {
            for (int c = 0; c < x.count(0); c++) {
                say("pick", x.turn(p, c), x.slant(p, c), x.shown(p, c, false), x.shown(p, c, true),
                        x.shows(p, c, false), x.shows(p, c, true));
            }
            for (int colour = 0; colour <= 7; colour++) {
                say("many", x.many(p, colour));
            }
        }
    }

    private void plans() {
        for (int c = 0; c < x.count(0); c++) {
            say("best", x.idles(c), x.behind(c));
            for (int i = 0; i < ROWS; i++) {
                say("turning", x.turning(c, i));
            }
            say("threading", x.threading(c, 0), x.threading(c, 1), x.threading(c, 2), x.threading(c, 3), x.quarrel(c));
            say("wrong", x.wrongs(c), x.wrong(c, 0), x.wrong(c, 1), x.wrong(c, 5));
        }
    }

    private void woven() {
        int before = x.count(1);
        say("weave", x.weave());
        cardsAsTheyLie();
        for (int p = before; p < PICKS && x.count(1) > before; p++) {
            x.unweave();
        }
    }

    private void pictureAndRules() {
        for (int c = 0; c < x.count(0); c++) {
            for (int row = 0; row < ROWS; row++) {
                say("picture", x.paint(row, c, TurnedCards.NONE));
            }
        }
        say("rules", x.rule(0, 1), x.rule(1, 3));
    }

    private void unwoven() {
        for (int p = 0; p <= PICKS; p++) {
            say("unweave", x.unweave());
            cardsAsTheyLie();
        }
    }

    private void colours() {
        for (int c = 0; c < x.count(0); c++) {
            for (int t = 0; t < 4; t++) {
                say("colour", x.thread(c, t, 0));
            }
        }
    }
}
