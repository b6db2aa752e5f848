/** Promises 14 to 22: wind, read, felt, forget, fits, ask, pull, passed, year. */
public final class SumsTest {
    private static final Due DUE = new Due("sums");

    public static void main(String[] args) {
        wind();
        read();
        readRefused();
        sights();
        fits();
        ask();
        pull();
        passed();
        year();
        yearFromWhatIs();
        DUE.end();
    }

    private static void wind() {
        MittenLine x = new MittenLine();
        DUE.same("wind(123, 3, 0)", x.wind(123, 3, 0), 9);
        DUE.same("wind(123, 3, 1)", x.wind(123, 3, 1), 11);
        DUE.same("wind(12, 2, 0)", x.wind(12, 2, 0), 3);
        DUE.same("wind(12, 2, 1)", x.wind(12, 2, 1), 3);
        DUE.same("wind(12, 3, 0): a nought ahead", x.wind(12, 3, 0), 4);
        DUE.same("wind(12, 3, 1)", x.wind(12, 3, 1), 6);
        DUE.same("wind(7, 9, 0)", x.wind(7, 9, 0), 7);
        DUE.same("wind(7, 9, 1)", x.wind(7, 9, 1), 56);
        DUE.same("wind(9, 1, 0)", x.wind(9, 1, 0), 0);
        DUE.same("wind(9, 1, 1)", x.wind(9, 1, 1), 0);
        DUE.same("wind(0, 1, 0)", x.wind(0, 1, 0), 0);
        DUE.same("wind(999999999, 9, 1)", x.wind(999999999, 9, 1), 396);
        DUE.same("wind(9191, 4, 0): only neighbours", x.wind(9191, 4, 0), 40);
        DUE.same("wind(1991, 4, 0)", x.wind(1991, 4, 0), 40);
        DUE.same("wind(10, 1, 0): too many digits", x.wind(10, 1, 0), -2);
        DUE.same("wind(1000, 3, 0)", x.wind(1000, 3, 0), -2);
        DUE.same("wind(999, 3, 0)", x.wind(999, 3, 0), 45);
        DUE.same("wind(1000000000, 9, 0)", x.wind(1000000000, 9, 0), -2);
        DUE.same("wind(-1, 3, 0)", x.wind(-1, 3, 0), -2);
        DUE.same("wind(1, 0, 0)", x.wind(1, 0, 0), -2);
        DUE.same("wind(1, 10, 0)", x.wind(1, 10, 0), -2);
        DUE.same("wind(1, 3, 2)", x.wind(1, 3, 2), -2);
        DUE.same("wind(1, 3, -1)", x.wind(1, 3, -1), -2);
        DUE.same("wind(123, 3, 0) again", x.wind(123, 3, 0), 9);
    }

    private static void read() {
        MittenLine x = new MittenLine();
        DUE.same("read ways", x.read(1, 11, 111, 111, 1111, 0), 7);
        DUE.same("read ways, other order", x.read(111, 1, 111, 11, 1111, 0), 7);
        DUE.same("all alike", x.read(1, 1, 1, 1, 111, 0), 1);
        DUE.same("all alike, few", x.read(1, 1, 1, 1, 111, 1), 3);
        DUE.same("four words", x.read(1, 2, 12, 121, 121, 0), 3);
        DUE.same("four words, few", x.read(1, 2, 12, 121, 121, 1), 1);
        DUE.same("few of many", x.read(1, 11, 111, 999, 11111, 1), 2);
        DUE.same("none", x.read(2, 3, 4, 5, 1, 0), 0);
        DUE.same("none, few", x.read(2, 3, 4, 5, 1, 1), -6);
        DUE.same("row 0", x.read(1, 10, 100, 5, 0, 0), 0);
        DUE.same("row 0, few", x.read(1, 10, 100, 5, 0, 1), -6);
        DUE.same("noughts inside", x.read(10, 1, 100, 5, 10010, 0), 1);
        DUE.same("noughts inside, few", x.read(10, 1, 100, 5, 10010, 1), 2);
        DUE.same("no noughts ahead of a word", x.read(5, 50, 7, 9, 505, 0), 1);
        DUE.same("a nought stands not alone", x.read(5, 7, 7, 9, 505, 0), 0);
        DUE.same("a long row", x.read(9, 99, 999, 998, 999999999, 0), 149);
        DUE.same("a dead end at the start", x.read(12, 23, 3, 4, 123, 0), 1);
        DUE.same("a dead end, few", x.read(12, 23, 3, 4, 123, 1), 2);
        DUE.same("few, a longer reading after it", x.read(12, 2, 1, 1, 112, 1), 2);
        DUE.same("few, a longer reading before it", x.read(2, 1, 12, 1, 112, 1), 2);
        DUE.same("a long word past the start", x.read(123, 23, 3, 4, 23, 0), 1);
    }

    private static void readRefused() {
        MittenLine x = new MittenLine();
        DUE.same("a 0", x.read(0, 1, 1, 1, 1, 0), -2);
        DUE.same("b 0", x.read(1, 0, 1, 1, 1, 0), -2);
        DUE.same("c 0", x.read(1, 1, 0, 1, 1, 0), -2);
        DUE.same("d 0", x.read(1, 1, 1, 0, 1, 0), -2);
        DUE.same("a 1000", x.read(1000, 1, 1, 1, 1, 0), -2);
        DUE.same("b 1000", x.read(1, 1000, 1, 1, 1, 0), -2);
        DUE.same("c 1000", x.read(1, 1, 1000, 1, 1, 0), -2);
        DUE.same("d 1000", x.read(1, 1, 1, 1000, 1, 0), -2);
        DUE.same("row -1", x.read(1, 1, 1, 1, -1, 0), -2);
        DUE.same("row 1000000000", x.read(1, 1, 1, 1, 1000000000, 0), -2);
        DUE.same("row 999999999", x.read(999, 1, 1, 1, 999999999, 0), 1);
        DUE.same("what 2", x.read(1, 1, 1, 1, 1, 2), -2);
        DUE.same("what -1", x.read(1, 1, 1, 1, 1, -1), -2);
    }

    private static void sights() {
        MittenLine x = new MittenLine();
        DUE.same("felt(-1, 0)", x.felt(-1, 0), -1);
        DUE.same("felt(10, 10)", x.felt(10, 10), -1);
        DUE.same("felt(0, -1)", x.felt(0, -1), -2);
        DUE.same("felt(0, 10)", x.felt(0, 10), -2);
        for (int i = 1; i <= 8; i++) DUE.same("sight " + i, x.felt(9, 9), i);
        DUE.same("sight 9", x.felt(9, 9), -4);
        DUE.same("sight 9, child first", x.felt(10, 9), -1);
        DUE.same("sight 9, outside first", x.felt(9, 10), -2);
        DUE.same("told", x.told(4), 8);
        DUE.same("alike sights fit as one", x.fits(-1), 3);
        DUE.same("forget", x.forget(), 8);
        DUE.same("forget again", x.forget(), 0);
        DUE.same("all fit again", x.fits(-1), 270);
        DUE.same("sight after", x.felt(0, 0), 1);
        DUE.same("what is felt is another thing", x.told(20), 0);
    }

    private static void fits() {
        MittenLine x = new MittenLine();
        DUE.same("fits(-1)", x.fits(-1), 270);
        DUE.same("fits(-2)", x.fits(-2), -6);
        DUE.same("fits(least)", x.fits(Integer.MIN_VALUE), -6);
        DUE.same("fits(most)", x.fits(Integer.MAX_VALUE), -6);
        int place = 0;
        for (int code = 11; code <= 993; code++) {
            if (code / 10 % 10 == 0 || code % 10 < 1 || code % 10 > 3) continue;
            DUE.same("fits(" + place + ")", x.fits(place), code);
            place++;
        }
        DUE.same("fits(270)", x.fits(270), -6);
        x.felt(4, 9);
        DUE.same("9 by 4", x.fits(-1), 3);
        DUE.same("9 by 4, first", x.fits(0), 491);
        DUE.same("9 by 4, last", x.fits(2), 493);
        x.felt(2, 5);
        DUE.same("and 5 by 2", x.fits(-1), 1);
        DUE.same("and 5 by 2, first", x.fits(0), 492);
        DUE.same("and 5 by 2, second", x.fits(1), -6);
        x.felt(9, 1);
        DUE.same("and 1 by 9", x.fits(-1), 0);
        DUE.same("and 1 by 9, first", x.fits(0), -6);
        MittenLine y = new MittenLine();
        y.felt(0, 1);
        y.felt(9, 1);
        DUE.same("1 at both ends", y.fits(-1), 0);
        y.forget();
        y.felt(5, 0);
        y.felt(6, 1);
        DUE.same("0 by 5, 1 by 6, first", y.fits(0), 611);
    }

    private static void ask() {
        MittenLine x = new MittenLine();
        DUE.same("ask(-1)", x.ask(-1), -2);
        DUE.same("ask(2)", x.ask(2), -2);
        DUE.same("ask(0): the least", x.ask(0), 4);
        DUE.same("ask(1)", x.ask(1), 137);
        x.felt(4, 9);
        DUE.same("one of three: ask(0)", x.ask(0), 0);
        DUE.same("one of three: ask(1)", x.ask(1), 1);
        x.felt(3, 7);
        DUE.same("one is left: ask(0)", x.ask(0), 0);
        DUE.same("one is left: ask(1)", x.ask(1), 1);
        x.felt(3, 6);
        DUE.same("nothing fits: ask(0)", x.ask(0), -6);
        DUE.same("nothing fits: ask(1)", x.ask(1), -6);
        DUE.same("nothing fits: ask(2)", x.ask(2), -2);
    }

    private static void pull() {
        MittenLine x = new MittenLine();
        DUE.same("pull(0, 1, 0, 0)", x.pull(0, 1, 0, 0), 0);
        DUE.same("pull(0, 1, 0, 1)", x.pull(0, 1, 0, 1), -6);
        DUE.same("pull(1, 1, 0, 0)", x.pull(1, 1, 0, 0), 1);
        DUE.same("pull(1, 1, 0, 1)", x.pull(1, 1, 0, 1), 1);
        DUE.same("pull(1, 1, 1, 0)", x.pull(1, 1, 1, 0), 0);
        DUE.same("pull(2, 1, 0, 1): the other one may not", x.pull(2, 1, 0, 1), 1);
        DUE.same("pull(2, 2, 0, 1): the least", x.pull(2, 2, 0, 1), 1);
        DUE.same("pull(2, 2, 1, 1)", x.pull(2, 2, 1, 1), 2);
        DUE.same("pull(3, 2, 0, 1)", x.pull(3, 2, 0, 1), -6);
        DUE.same("pull(7, 3, 1, 1)", x.pull(7, 3, 1, 1), 3);
        DUE.same("pull(5, 3, 9, 0): 9 could not be", x.pull(5, 3, 9, 0), x.pull(5, 3, 0, 0));
        DUE.same("pull(99, 9, 0, 1)", x.pull(99, 9, 0, 1), 3);
        DUE.same("pull(-1, 1, 0, 0)", x.pull(-1, 1, 0, 0), -2);
        DUE.same("pull(100, 1, 0, 0)", x.pull(100, 1, 0, 0), -2);
        DUE.same("pull(1, 0, 0, 0)", x.pull(1, 0, 0, 0), -2);
        DUE.same("pull(1, 10, 0, 0)", x.pull(1, 10, 0, 0), -2);
        DUE.same("pull(1, 1, -1, 0)", x.pull(1, 1, -1, 0), -2);
        DUE.same("pull(1, 1, 10, 0)", x.pull(1, 1, 10, 0), -2);
        DUE.same("pull(1, 1, 0, 2)", x.pull(1, 1, 0, 2), -2);
        DUE.same("pull(1, 1, 0, -1)", x.pull(1, 1, 0, -1), -2);
    }

    private static void passed() {
        MittenLine x = new MittenLine();
        long gone = -1000000000000000002L;
        DUE.same("passed(1, 10, 0, 0)", x.passed(1, 10, 0, 0), 0);
        DUE.same("passed(1, 10, 0, 1)", x.passed(1, 10, 0, 1), 1);
        DUE.same("passed(2, 10, 0, 0)", x.passed(2, 10, 0, 0), 1);
        DUE.same("passed(1, 3, 0, 0)", x.passed(1, 3, 0, 0), 7);
        DUE.same("passed(1, 3, 0, 1)", x.passed(1, 3, 0, 1), 10);
        DUE.same("passed(1, 5, 0, 0)", x.passed(1, 5, 0, 0), 1);
        DUE.same("passed(1, 5, 0, 1)", x.passed(1, 5, 0, 1), 2);
        DUE.same("passed(9, 0, 0, 0)", x.passed(9, 0, 0, 0), 1);
        DUE.same("passed(9, 0, 1, 0)", x.passed(9, 0, 1, 0), 0);
        DUE.same("passed(9, 0, 1, 1)", x.passed(9, 0, 1, 1), 1);
        DUE.same("passed(3, 4, 1, 0)", x.passed(3, 4, 1, 0), 6);
        DUE.same("passed(3, 4, 1, 1)", x.passed(3, 4, 1, 1), 5);
        DUE.same("passed(16, 10, 1, 0)", x.passed(16, 10, 1, 0), 16);
        DUE.same("passed(-1, 0, 0, 0)", x.passed(-1, 0, 0, 0), gone);
        DUE.same("passed(17, 0, 0, 0)", x.passed(17, 0, 0, 0), gone);
        DUE.same("passed(1, -1, 0, 0)", x.passed(1, -1, 0, 0), gone);
        DUE.same("passed(1, 11, 0, 0)", x.passed(1, 11, 0, 0), gone);
        DUE.same("passed(1, 1, -1, 0)", x.passed(1, 1, -1, 0), gone);
        DUE.same("passed(1, 1, 2, 0)", x.passed(1, 1, 2, 0), gone);
        DUE.same("passed(1, 1, 0, -1)", x.passed(1, 1, 0, -1), gone);
        DUE.same("passed(1, 1, 0, 2)", x.passed(1, 1, 0, 2), gone);
    }

    private static void year() {
        MittenLine x = new MittenLine();
        DUE.same("year(-1, 1, 0)", x.year(-1, 1, 0), -2);
        DUE.same("year(10000, 1, 0)", x.year(10000, 1, 0), -2);
        DUE.same("year(0, 0, 0)", x.year(0, 0, 0), -2);
        DUE.same("year(0, 100, 0)", x.year(0, 100, 0), -2);
        DUE.same("year(0, 1, -1)", x.year(0, 1, -1), -2);
        DUE.same("year(0, 1, 3)", x.year(0, 1, 3), -2);
        // 75 times 9999 and 74 is 749999, less 11 times 65537: 29092, child 2, and 2909 by 8 leaves 5: let out.
        DUE.same("year(9999, 1, 2)", x.year(9999, 1, 2), 19);
        DUE.same("year(9999, 99, 0): both at the most", x.year(9999, 99, 0) >= 0 ? 1 : 0, 1);
        // 75 times 0 and 74: child 4, and 7 is a day.
        DUE.same("year(0, 1, 0)", x.year(0, 1, 0), 0);
        // 75 times 14 and 74 is 1124: child 4, and 112 by 8 leaves 0, 14 by 9 leaves 5: on by 6, and 3 is drawn.
        DUE.same("year(14, 1, 1)", x.year(14, 1, 1), 1);
        // 75 times 2 and 74 is 224: child 4, and 22 by 8 leaves 6: wound.
        DUE.same("year(2, 1, 2)", x.year(2, 1, 2), 21);
        // 75 times 5 and 74 is 449: child 9, and 44 by 8 leaves 4: a squeeze.
        DUE.same("year(5, 1, 2)", x.year(5, 1, 2), 20);
        DUE.same("nothing is done", x.told(14), 40);
        DUE.same("nor felt", x.told(28), 0);
        DUE.same("nor is the ball", x.told(2), 20);
        DUE.same("nor the day", x.told(3), 0);
    }

    private static void yearFromWhatIs() {
        MittenLine x = new MittenLine();
        x.child(0, 25, 0);
        x.child(5, 55, 1);
        x.child(4, 40, 1);
        x.string(4, 15);
        Due.does(x, "E#F#A>9A>9A>9A>9");
        x.ball(999);
        x.string(0, 99);
        x.string(8, 20);
        Due.does(x, "A-A-");
        int yard = x.year(5, 90, 0);
        Due.say(x, "A>9K");
        DUE.same("the pad is all one", x.year(5, 90, 0), yard);
        DUE.same("the pad stays", x.told(0), 4);
        MittenLine held = new MittenLine();
        held.child(4, 40, 1);
        DUE.same("what can not be is not", held.year(14, 1, 1), 0);
        held.ball(999);
        DUE.same("999 at most", held.year(2, 1, 2), 999);
    }
}
