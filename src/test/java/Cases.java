import java.util.function.Supplier;
import java.util.function.ToLongFunction;

/**
 * What the tests of single cases share. A class of them extends this one; each test is a static method
 * whose name begins with its promise (p01 to p25) and its call, then tells the case.
 */
abstract class Cases {
    // As the document has them, so that a constant of the class that is another one is seen.
    static final int UNKNOWN = -1, OUTSIDE = -2, STATE = -3, FULL = -4, NO = -5, NONE = -6;
    static final long GONE_OUTSIDE = -1000000000000000002L;
    static final int LEAST = Integer.MIN_VALUE, MOST = Integer.MAX_VALUE;

    private static final int YARDS = 10, FELTS = 20, STRINGS = 30;

    private static String test = "";
    private static int checks;
    private static int wrong;

    static void begin(String name) {
        test = name;
        checks = 0;
        wrong = 0;
    }

    static int checks() {
        return checks;
    }

    static int wrong() {
        return wrong;
    }

    static void same(String call, long got, long want) {
        checks++;
        if (got == want) return;
        wrong++;
        if (wrong <= 5) System.out.println(test + ": " + call + " answered " + got + ", due is " + want);
    }

    // ---- a call that changes nothing

    /** Of two objects made alike one is asked; it answers so, and later calls find no difference. */
    static void answersAndChangesNothing(Supplier<MittenLine> scene, ToLongFunction<MittenLine> call, long due) {
        MittenLine asked = scene.get();
        same("the call", call.applyAsLong(asked), due);
        sameFromNowOn(asked, scene.get());
    }

    /** A call that only tells: it answers what it answers to the other one, and later calls find no difference. */
    static void changesNothing(Supplier<MittenLine> scene, ToLongFunction<MittenLine> call) {
        answersAndChangesNothing(scene, call, call.applyAsLong(scene.get()));
    }

    static void refuses(ToLongFunction<MittenLine> call, long due) {
        answersAndChangesNothing(Cases::busy, call, due);
    }

    static void refuses(Supplier<MittenLine> scene, ToLongFunction<MittenLine> call, long due) {
        answersAndChangesNothing(scene, call, due);
    }

    /** Some 250 calls to each of the two, those that change something last. */
    static void sameFromNowOn(MittenLine x, MittenLine twin) {
        sameTold("", x, twin);
        sameBehind(x, twin);
        sameSights("", x, twin);
        same("later done()", x.done(), twin.done());
        same("later say('#')", x.say('#'), twin.say('#'));
        same("later fault() with a # more", x.fault(), twin.fault());
        same("later done() with a # more", x.done(), twin.done());
        same("later wipe()", x.wipe(), twin.wipe());
        sameTold("after done() ", x, twin);
        for (int k = 0; k < 2; k++) {
            same("later restore(" + k + ")", x.restore(k), twin.restore(k));
            sameTold("after restore(" + k + ") ", x, twin);
            sameSights("after restore(" + k + ") ", x, twin);
        }
        same("later forget()", x.forget(), twin.forget());
    }

    private static void sameTold(String when, MittenLine x, MittenLine twin) {
        for (int what = 0; what < STRINGS + 9; what++) {
            if (what < 5 || what >= YARDS) same("later " + when + "told(" + what + ")", x.told(what), twin.told(what));
        }
    }

    private static void sameBehind(MittenLine x, MittenLine twin) {
        same("later fault()", x.fault(), twin.fault());
        for (int what = 0; what < 4; what++) {
            same("later judge(" + what + ")", x.judge(what), twin.judge(what));
            same("later line(" + what + ")", x.line(what), twin.line(what));
            same("later drawn(" + what + ")", x.drawn(what), twin.drawn(what));
            same("later year(77, 99, " + what + ")", x.year(77, 99, what), twin.year(77, 99, what));
        }
        for (int child = 0; child < 10; child++) {
            for (int what = 0; what < 3; what++) {
                same("later behind(" + child + ", " + what + ")", x.behind(child, what), twin.behind(child, what));
            }
        }
    }

    private static void sameSights(String when, MittenLine x, MittenLine twin) {
        same("later " + when + "fits(-1)", x.fits(-1), twin.fits(-1));
        same("later " + when + "fits(0)", x.fits(0), twin.fits(0));
        same("later " + when + "fits(1)", x.fits(1), twin.fits(1));
        same("later " + when + "ask(0)", x.ask(0), twin.ask(0));
        same("later " + when + "ask(1)", x.ask(1), twin.ask(1));
    }

    // ---- scenes

    /** Nothing is as at first: two images, two sights, and a text on the pad that can be. */
    static MittenLine busy() {
        MittenLine x = new MittenLine();
        x.string(0, 20);
        x.string(2, 17);
        x.child(0, 3, 0);
        x.child(3, 36, 1);
        x.child(9, 91, 1);
        x.ball(55);
        Due.does(x, "..E!9A!8");
        x.felt(3, 6);
        x.image(0);
        x.string(4, 30);
        x.string(6, 17);
        x.string(8, 12);
        x.child(5, 47, 0);
        x.child(7, 75, 1);
        x.ball(66);
        Due.does(x, ".B!9");
        x.forget();
        x.felt(2, 4);
        x.felt(3, 1);
        x.image(1);
        x.child(1, 12, 0);
        x.ball(77);
        Due.does(x, ".J!9D!7");
        x.forget();
        x.felt(4, 3);
        x.felt(5, 2);
        return Due.say(x, "C>2A+B!5");
    }

    static MittenLine busyWith(String text) {
        MittenLine x = busy();
        x.wipe();
        return Due.say(x, text);
    }

    /** An act of the text can not be: the one at 1. */
    static MittenLine busyWithWhatCanNotBe() {
        return busyWith("A#A>1B#");
    }

    /** More must come: a fault at 4, and a # would mend it. */
    static MittenLine busyWithFault() {
        return busyWith("A#.B");
    }

    /** A fault at 4, and the first act can not be. */
    static MittenLine busyWithFaultAndWhatCanNotBe() {
        return busyWith("J+.BK");
    }

    static MittenLine busyWithFullPad() {
        return busyWith("B!1A#B!1A#.".repeat(6).substring(0, 60));
    }

    static MittenLine busyWithFullSights() {
        MittenLine x = busy();
        for (int i = 0; i < 6; i++) x.felt(4, 3);
        return x;
    }

    /** All strings so long, the children 10 apart. */
    static MittenLine withStrings(int yards) {
        MittenLine x = new MittenLine();
        for (int i = 0; i < 9; i++) x.string(i, yards);
        return x;
    }

    static MittenLine withString(int string, int yards) {
        MittenLine x = new MittenLine();
        x.string(string, yards);
        return x;
    }

    static MittenLine withBall(int yards) {
        MittenLine x = new MittenLine();
        x.ball(yards);
        return x;
    }

    /** The children in the bits hold, where they are at first. */
    static MittenLine holding(int bits) {
        MittenLine x = new MittenLine();
        for (int i = 0; i < 10; i++) x.child(i, 10 * i, bits >> i & 1);
        return x;
    }

    static MittenLine atDay(int day) {
        MittenLine x = new MittenLine();
        for (int left = day; left > 0; left -= 60) Due.does(x, ".".repeat(Math.min(60, left)));
        return x;
    }

    /** All ten at one yard, on strings of 99; some 140 calls. */
    static MittenLine allAt(int yard) {
        MittenLine x = withStrings(99);
        int[] at = new int[10];
        for (int i = 0; i < 10; i++) at[i] = 10 * i;
        for (int round = 0; round < 13; round++) {
            for (int i = 9; i >= 0; i--) {
                int near = Math.min(at[Math.max(0, i - 1)], at[Math.min(9, i + 1)]);
                int to = Math.min(yard, near + 99);
                if (to == at[i]) continue;
                same("allAt child(" + i + ", " + to + ", 0)", x.child(i, to, 0), at[i]);
                at[i] = to;
            }
        }
        for (int i = 0; i < 10; i++) same("allAt told(" + (YARDS + i) + ")", x.told(YARDS + i), yard);
        return x;
    }

    /** 0 and 1 at one yard, on a string so long. */
    static MittenLine firstTwoTogether(int yards) {
        MittenLine x = new MittenLine();
        x.child(0, 10, 0);
        x.string(0, yards);
        return x;
    }

    // ---- what is told, at once

    static void yards(String when, MittenLine x, int... want) {
        for (int i = 0; i < want.length; i++) same(when + " behind(" + i + ", 0)", x.behind(i, 0), want[i]);
    }

    static void felts(String when, MittenLine x, int... want) {
        for (int i = 0; i < want.length; i++) same(when + " behind(" + i + ", 1)", x.behind(i, 1), want[i]);
    }

    static void toldYard(MittenLine x, int child, int want) {
        same("told yard of " + child, x.told(YARDS + child), want);
    }

    static void toldFelt(MittenLine x, int child, int want) {
        same("told felt of " + child, x.told(FELTS + child), want);
    }

    static void toldString(MittenLine x, int string, int want) {
        same("told string " + string, x.told(STRINGS + string), want);
    }

    /** A text on a scene's pad: the first act that can not be, and why. */
    static void canNotBe(MittenLine x, String text, int act, int why) {
        x.wipe();
        Due.say(x, text);
        same(text + " fault()", x.fault(), NONE);
        same(text + " judge(0)", x.judge(0), act);
        same(text + " judge(1)", x.judge(1), why);
        same(text + " judge(2)", x.judge(2), STATE);
    }

    static void canBe(MittenLine x, String text) {
        x.wipe();
        Due.say(x, text);
        same(text + " fault()", x.fault(), NONE);
        same(text + " judge(0)", x.judge(0), NONE);
        same(text + " judge(1)", x.judge(1), NONE);
    }
}
