/** Rows of drawn calls, each answer beside the model's; and every argument of the smaller sums. */
public final class ModelTest {
    private static final Due DUE = new Due("model");
    private static final int CALLS = 512;

    public static void main(String[] args) {
        for (int run = 0; run < 400; run++) calls(run);
        everyPull();
        everyPassed();
        everyPairOfSights();
        manyYears();
        manyRows();
        DUE.end();
    }

    private static void calls(int run) {
        Draws draws = new Draws(run);
        MittenLine x = new MittenLine();
        Model m = new Model();
        int used = 0;
        if (run % 3 == 0) used += tighten(x, m, draws);
        while (used < CALLS - 61) {
            if (draws.oneIn(4)) used += sayText(x, m, draws, run);
            else if (draws.oneIn(3)) used += change(x, m, draws, run);
            else used += look(x, m, draws, run);
        }
        for (int what = 0; what < 40; what++) DUE.same(run + ": told(" + what + ")", x.told(what), m.told(what));
    }

    /** Short strings and much that holds, so that more is drawn and more can not be. */
    private static int tighten(MittenLine x, Model m, Draws draws) {
        for (int i = 0; i < 9; i++) {
            int yards = 10 + draws.below(3);
            DUE.same("string", x.string(i, yards), m.string(i, yards));
        }
        int wool = draws.below(4) * 333;
        DUE.same("ball", x.ball(wool), m.ball(wool));
        return 10;
    }

    private static int sayText(MittenLine x, Model m, Draws draws, int run) {
        String text = text(draws);
        for (int i = 0; i < text.length(); i++) {
            int sign = text.charAt(i);
            DUE.same(run + ": say(" + sign + ")", x.say(sign), m.say(sign));
        }
        DUE.same(run + ": fault() of " + m.pad, x.fault(), m.fault());
        DUE.same(run + ": judge(0) of " + m.pad, x.judge(0), m.judge(0));
        DUE.same(run + ": judge(1) of " + m.pad, x.judge(1), m.judge(1));
        return text.length() + 3;
    }

    private static String text(Draws draws) {
        StringBuilder text = new StringBuilder();
        int acts = 1 + draws.below(6);
        int actor = draws.below(10);
        for (int i = 0; i < acts; i++) {
            if (draws.oneIn(2)) actor = draws.below(10);
            char letter = (char) ('A' + actor);
            int kind = draws.below(20);
            int digit = 1 + draws.below(9);
            if (kind < 7) text.append(letter).append('>').append(digit);
            else if (kind < 11) text.append(letter).append('<').append(digit);
            else if (kind < 13) text.append(letter).append('!').append(digit);
            else if (kind < 15) text.append(letter).append('#');
            else if (kind < 17) text.append(letter).append('+');
            else if (kind < 19) text.append(letter).append('-');
            else text.append('.');
        }
        if (draws.oneIn(12)) text.append((char) (33 + draws.below(94)));
        return text.toString();
    }

    private static int change(MittenLine x, Model m, Draws draws, int run) {
        String at = run + ": ";
        int a = draws.around(0, 9);
        switch (draws.below(10)) {
            case 0: {
                int yard = draws.oneIn(3) ? draws.around(0, 999) : m.told(10 + draws.below(10)) + draws.below(30) - 15;
                int holds = draws.oneIn(3) ? draws.around(0, 1) : 0;
                DUE.same(at + "child(" + a + ", " + yard + ", " + holds + ")", x.child(a, yard, holds), m.child(a, yard, holds));
                break;
            }
            case 1: {
                int yards = draws.oneIn(3) ? draws.around(1, 99) : draws.around(5, 20);
                DUE.same(at + "string(" + a + ", " + yards + ")", x.string(a, yards), m.string(a, yards));
                break;
            }
            case 2: {
                int v = draws.around(0, 999);
                DUE.same(at + "ball(" + v + ")", x.ball(v), m.ball(v));
                break;
            }
            case 3: DUE.same(at + "wipe()", x.wipe(), m.wipe()); break;
            case 4:
            case 5:
            case 6: {
                String pad = m.pad;
                int due = m.done();
                DUE.same(at + "done() of " + pad, x.done(), due);
                if (due < 0) DUE.same(at + "wipe()", x.wipe(), m.wipe());
                break;
            }
            case 7: {
                int v = draws.around(0, 9);
                DUE.same(at + "felt(" + a + ", " + v + ")", x.felt(a, v), m.felt(a, v));
                break;
            }
            case 8: DUE.same(at + "forget()", x.forget(), m.forget()); break;
            default: {
                int k = draws.around(0, 1);
                if (draws.oneIn(2)) DUE.same(at + "image(" + k + ")", x.image(k), m.image(k));
                else DUE.same(at + "restore(" + k + ")", x.restore(k), m.restore(k));
                break;
            }
        }
        return 2;
    }

    private static int look(MittenLine x, Model m, Draws draws, int run) {
        String at = run + ": ";
        int a = draws.around(0, 9);
        int what = draws.around(0, 3);
        switch (draws.below(12)) {
            case 0: DUE.same(at + "judge(" + what + ") of " + m.pad, x.judge(what), m.judge(what)); break;
            case 1:
            case 2: DUE.same(at + "behind(" + a + ", " + what + ") of " + m.pad, x.behind(a, what), m.behind(a, what)); break;
            case 3: DUE.same(at + "line(" + what + ") of " + m.pad, x.line(what), m.line(what)); break;
            case 4: DUE.same(at + "drawn(" + what + ") of " + m.pad, x.drawn(what), m.drawn(what)); break;
            case 5:
            case 6: {
                int way = draws.around(0, 1);
                DUE.same(at + "reach(" + a + ", " + way + ")", x.reach(a, way), m.reach(a, way));
                break;
            }
            case 7: {
                int i = draws.around(-1, 30);
                DUE.same(at + "fits(" + i + ")", x.fits(i), m.fits(i));
                break;
            }
            case 8: {
                int which = draws.around(0, 1);
                DUE.same(at + "ask(" + which + ")", x.ask(which), m.ask(which));
                break;
            }
            case 9: {
                int seed = draws.around(0, 9999);
                int acts = draws.around(1, 99);
                DUE.same(at + "year(" + seed + ", " + acts + ", " + what + ")", x.year(seed, acts, what), m.year(seed, acts, what));
                break;
            }
            default: {
                int of = draws.around(0, 39);
                DUE.same(at + "told(" + of + ")", x.told(of), m.told(of));
                break;
            }
        }
        return 1;
    }

    private static void everyPull() {
        Model m = new Model();
        for (int n = 0; n <= 99; n++) {
            for (int k = 1; k <= 9; k++) {
                MittenLine x = new MittenLine();
                for (int just = 0; just <= 9; just++) {
                    String call = "pull(" + n + ", " + k + ", " + just + ", ";
                    DUE.same(call + "0)", x.pull(n, k, just, 0), m.pull(n, k, just, 0));
                    DUE.same(call + "1)", x.pull(n, k, just, 1), m.pull(n, k, just, 1));
                }
            }
        }
    }

    private static void everyPassed() {
        Model m = new Model();
        for (int n = -1; n <= 17; n++) {
            MittenLine x = new MittenLine();
            for (int t = -1; t <= 11; t++) {
                for (int what = -1; what <= 2; what++) {
                    for (int part = 0; part < 2; part++) {
                        String call = "passed(" + n + ", " + t + ", " + what + ", " + part + ")";
                        DUE.same(call, x.passed(n, t, what, part), m.passed(n, t, what, part));
                    }
                }
            }
        }
    }

    private static void everyPairOfSights() {
        for (int pair = 0; pair < 10000; pair += 7) {
            MittenLine x = new MittenLine();
            Model m = new Model();
            for (int sight = pair; sight > 0; sight /= 100) {
                DUE.same("felt", x.felt(sight / 10 % 10, sight % 10), m.felt(sight / 10 % 10, sight % 10));
            }
            for (int i = -2; i < 6; i++) DUE.same(pair + ": fits(" + i + ")", x.fits(i), m.fits(i));
            DUE.same(pair + ": ask(0)", x.ask(0), m.ask(0));
            DUE.same(pair + ": ask(1)", x.ask(1), m.ask(1));
        }
    }

    private static void manyYears() {
        MittenLine x = new MittenLine();
        Model m = new Model();
        for (int i = 0; i < 1500; i++) {
            int seed = i * 7 % 10000;
            int acts = 1 + i % 99;
            if (i % 150 == 0) x = new MittenLine();
            for (int what = 0; what < 3; what++) {
                DUE.same("year(" + seed + ", " + acts + ", " + what + ")", x.year(seed, acts, what), m.year(seed, acts, what));
            }
        }
    }

    private static void manyRows() {
        Draws draws = new Draws(77);
        Model m = new Model();
        for (int i = 0; i < 1000; i++) {
            MittenLine x = new MittenLine();
            int n = draws.around(1, 9);
            int row = draws.oneIn(9) ? draws.around(0, 999999999) : draws.below((int) Math.pow(10, Math.max(0, Math.min(9, n))));
            for (int what = -1; what < 3; what++) {
                DUE.same("wind(" + row + ", " + n + ", " + what + ")", x.wind(row, n, what), m.wind(row, n, what));
            }
            readings(x, m, draws);
        }
    }

    private static void readings(MittenLine x, Model m, Draws draws) {
        for (int i = 0; i < 60; i++) {
            int digits = 1 + draws.below(3);
            int a = word(draws, digits);
            int b = word(draws, digits);
            int c = word(draws, digits);
            int d = word(draws, digits);
            int row = 0;
            int length = 1 + draws.below(9);
            for (int k = 0; k < length; k++) row = 10 * row + draws.below(digits);
            if (draws.oneIn(30)) row = draws.around(0, 999999999);
            int what = draws.around(0, 1);
            String call = "read(" + a + ", " + b + ", " + c + ", " + d + ", " + row + ", " + what + ")";
            DUE.same(call, x.read(a, b, c, d, row, what), m.read(a, b, c, d, row, what));
        }
    }

    /** A word of few different digits, so that many rows are read. */
    private static int word(Draws draws, int digits) {
        if (draws.oneIn(60)) return draws.around(1, 999);
        int word = 1 + draws.below(Math.max(1, digits - 1));
        int more = draws.below(3);
        for (int i = 0; i < more; i++) word = 10 * word + draws.below(digits);
        return word;
    }
}
