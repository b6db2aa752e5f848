/** Promises 8 to 13: judge, behind, line, drawn, done, reach. */
public final class DaysTest {
    private static final Due DUE = new Due("days");

    public static void main(String[] args) {
        steps();
        stepsPast();
        reasonsOfSteps();
        squeezes();
        wool();
        days();
        judge();
        refusals();
        drawn();
        done();
        reach();
        DUE.end();
    }

    private static void yards(String text, MittenLine x, int... want) {
        for (int i = 0; i < want.length; i++) DUE.same(text + " behind(" + i + ", 0)", x.behind(i, 0), want[i]);
    }

    private static void why(String text, MittenLine x, int act, int reason) {
        DUE.same(text + " judge(0)", x.judge(0), act);
        DUE.same(text + " judge(1)", x.judge(1), reason);
    }

    private static void steps() {
        yards("A>5", Due.told("A>5"), 5, 10, 20, 30, 40, 50, 60, 70, 80, 90);
        yards("J>5", Due.told("J>5"), 0, 10, 20, 30, 40, 50, 60, 70, 80, 95);
        yards("J>6", Due.told("J>6"), 0, 10, 20, 30, 40, 50, 60, 70, 81, 96);
        yards("E>9", Due.told("E>9"), 0, 10, 20, 34, 49, 50, 60, 70, 80, 90);
        yards("E<9", Due.told("E<9"), 0, 10, 20, 30, 31, 46, 60, 70, 80, 90);
        yards("E>9E>9", Due.told("E>9E>9"), 0, 13, 28, 43, 58, 50, 60, 70, 80, 90);
        yards("E<9E<9", Due.told("E<9E<9"), 0, 10, 20, 30, 22, 37, 52, 67, 80, 90);
        MittenLine both = new MittenLine();
        both.child(4, 45, 0);
        both.child(5, 50, 0);
        both.string(3, 15);
        both.string(4, 5);
        yards("both sides", Due.say(both, "E>1"), 0, 10, 20, 31, 46, 50, 60, 70, 80, 90);
    }

    private static void stepsPast() {
        MittenLine x = new MittenLine();
        x.child(0, 9, 0);
        x.string(0, 1);
        yards("past the next one", Due.say(x, "A>9"), 18, 17, 20, 30);
        DUE.same("it is drawn", x.judge(2), 1);
        x.wipe();
        yards("not past", Due.say(x, "A>2"), 11, 10, 20, 30);
        DUE.same("none is drawn", x.judge(2), 0);
        x.wipe();
        Due.say(x, "A<3");
        yards("back from behind", x, 6, 7, 20, 30);
        MittenLine y = new MittenLine();
        y.child(1, 5, 0);
        y.child(0, 6, 0);
        y.string(0, 1);
        yards("the first ahead of the next one", Due.say(y, "A<6"), 0, 1, 16, 30);
        DUE.same("two are drawn", y.judge(2), 2);
    }

    private static void reasonsOfSteps() {
        why("A<1", Due.told("A<1"), 0, 1);
        MittenLine x = new MittenLine();
        x.child(0, 0, 1);
        why("A<1, holding: the least reason", Due.say(x, "A<1"), 0, 1);
        x.wipe();
        why("A>1, holding", Due.say(x, "A>1"), 0, 2);
        x.wipe();
        why("B>5, A holds, not too far off", Due.say(x, "B>5"), -6, -6);
        x.wipe();
        why("B>6, A holds", Due.say(x, "B>6"), 0, 2);
        x.wipe();
        why("C>9C>9, A holds, drawn by B", Due.say(x, "C>9C>9"), 1, 2);
        x.wipe();
        why("A# before", Due.say(x, "A#A>1"), -6, -6);
        why("A#A#A>1", Due.told("A#A#A>1"), -6, -6);
        why("B#A>9A>9A>9", Due.told("B#A>9A>9A>9"), 3, 2);
        why("J#I<5I<1", Due.told("J#I<5I<1"), 2, 2);
        MittenLine far = new MittenLine();
        for (int i = 0; i < 9; i++) far.string(i, 99);
        for (int i = 0; i < 4; i++) DUE.same("far, 20 acts", Due.does(far, "J>9".repeat(20)), 20);
        DUE.same("far, 19 acts", Due.does(far, "J>9".repeat(19)), 19);
        for (int i = 0; i < 10; i++) DUE.same("far " + i, far.told(10 + i), 90 + 99 * i);
        why("J>9J>9", Due.say(far, "J>9J>9"), -6, -6);
        DUE.same("at the last yard", far.behind(9, 0), 999);
        DUE.same("all drawn, twice", far.judge(2), 18);
        DUE.same("the first is drawn", far.behind(0, 0), 108);
        Due.say(far, "J>1");
        why("beyond the last yard", far, 2, 1);
        MittenLine yardNought = new MittenLine();
        why("to yard 0", Due.say(yardNought, "B<9B<1"), -6, -6);
        DUE.same("at yard 0", yardNought.behind(1, 0), 0);
        Due.say(yardNought, "B<1");
        why("below yard 0", yardNought, 2, 1);
    }

    private static void felts(String text, MittenLine x, int... want) {
        for (int i = 0; i < want.length; i++) DUE.same(text + " behind(" + i + ", 1)", x.behind(i, 1), want[i]);
    }

    private static void squeezes() {
        felts("E!9", Due.told("E!9"), 0, 0, 3, 6, 0, 6, 3, 0, 0, 0);
        felts("E!3", Due.told("E!3"), 0, 0, 0, 0, 0, 0, 0, 0, 0, 0);
        felts("E!4", Due.told("E!4"), 0, 0, 0, 1, 0, 1, 0, 0, 0, 0);
        felts("A!8", Due.told("A!8"), 0, 5, 2, 0);
        felts("J!8", Due.told("J!8"), 0, 0, 0, 0, 0, 0, 0, 2, 5, 0);
        felts("A!8B!7", Due.told("A!8B!7"), 4, 5, 6, 1);
        MittenLine x = new MittenLine();
        for (int i = 0; i < 9; i++) x.string(i, 10);
        felts("all taut", Due.say(x, "A!9"), 0, 8, 7, 6, 5, 4, 3, 2, 1, 0);
        x.wipe();
        felts("all taut, back", Due.say(x, "J!9"), 0, 1, 2, 3, 4, 5, 6, 7, 8, 0);
        x.wipe();
        x.string(3, 11);
        felts("one is not taut", Due.say(x, "F!9A!1"), 2, 3, 4, 5, 8, 0, 8, 7, 6, 5);
        x.wipe();
        felts("taut the other way about", Due.say(x, "A+A-A!2"), 0, 1, 0);
        for (int i = 0; i < 12; i++) Due.does(x, "A!9");
        DUE.same("felt 96", x.told(21), 96);
        x.wipe();
        felts("99 at most", Due.say(x, "A!9"), 0, 99, 91);
        felts("99 at most still", Due.say(x, "A!9"), 0, 99, 98);
        felts("a day", Due.say(x, "."), 0, 0, 0);
        felts("after a day", Due.say(x, "B!5"), 4, 0, 4);
    }

    private static void wool() {
        MittenLine x = Due.told("A+A+I+");
        DUE.same("ball", x.line(1), 17);
        DUE.same("all yards", x.line(2), 138);
        x.done();
        DUE.same("told 30", x.told(30), 17);
        DUE.same("told 38", x.told(38), 16);
        DUE.same("told 31", x.told(31), 15);
        Due.say(x, "A-B-");
        DUE.same("ball after", x.line(1), 19);
        DUE.same("all yards after", x.line(2), 136);
        why("J+", Due.told("J+"), 0, 3);
        why("J-", Due.told("J-"), 0, 3);
        MittenLine empty = new MittenLine();
        empty.ball(1);
        why("the ball is empty", Due.say(empty, "A+A+"), 1, 4);
        empty.wipe();
        empty.string(0, 99);
        why("99 yards", Due.say(empty, "A+"), 0, 5);
        empty.ball(0);
        why("99 yards and an empty ball: the least", empty, 0, 4);
        empty.wipe();
        why("J+ and an empty ball: the least", Due.say(empty, "J+"), 0, 3);
        empty.wipe();
        empty.ball(1);
        empty.string(0, 98);
        why("98 yards", Due.say(empty, "A+"), -6, -6);
        why("taut", Due.told("A-A-A-A-A-A-"), 5, 5);
        MittenLine one = new MittenLine();
        one.child(1, 5, 0);
        one.child(0, 5, 0);
        one.string(0, 2);
        why("1 long", Due.say(one, "A-A-"), 1, 5);
        MittenLine full = new MittenLine();
        full.ball(998);
        Due.say(full, "A-A-A-");
        DUE.same("the yard is lost", full.line(1), 999);
        DUE.same("the string is shorter", full.line(2), 132);
        Due.say(full, "A+");
        DUE.same("let out of a full ball", full.line(1), 998);
    }

    private static void days() {
        MittenLine x = new MittenLine();
        for (int i = 0; i < 99; i++) Due.does(x, ".");
        DUE.same("day 99", x.told(3), 99);
        why("no more days", Due.say(x, "A!9."), 1, 6);
        x.wipe();
        why("else it goes on", Due.say(x, "A!9"), -6, -6);
        MittenLine y = Due.told("..A!9.");
        DUE.same("line(3)", y.line(3), 3);
        DUE.same("told(3) stays", y.told(3), 0);
        x.wipe();
        DUE.same("year at day 99", x.year(1, 99, 0) >= 0 ? 1 : 0, 1);
    }

    private static void judge() {
        MittenLine x = Due.told("A#B>1B>9.A>1J+");
        why("the first one", x, 2, 2);
        DUE.same("judge(2): state", x.judge(2), -3);
        MittenLine y = Due.told("E>9E>9E<1J>6");
        why("none", y, -6, -6);
        DUE.same("judge(2): each in each act once", y.judge(2), 5);
        DUE.same("judge(2) of none", Due.told("A#.").judge(2), 0);
        DUE.same("judge(-1)", y.judge(-1), -2);
        DUE.same("judge(3)", y.judge(3), -2);
        DUE.same("judge changes nothing", y.told(14), 40);
        DUE.same("nor the pad", y.told(0), 12);
    }

    private static void refusals() {
        MittenLine x = Due.told("A");
        for (int what = 0; what <= 2; what++) {
            DUE.same("fault: judge " + what, x.judge(what), -5);
            DUE.same("fault: behind " + what, x.behind(0, what), -5);
        }
        for (int what = 0; what <= 3; what++) DUE.same("fault: line " + what, x.line(what), -5);
        DUE.same("fault: drawn(0)", x.drawn(0), -5);
        DUE.same("fault: drawn(1)", x.drawn(1), -5);
        DUE.same("fault: done", x.done(), -5);
        outsideFirst(x);
        x.wipe();
        Due.say(x, "A<1");
        for (int what = 0; what <= 2; what++) DUE.same("state: behind " + what, x.behind(0, what), -3);
        for (int what = 0; what <= 3; what++) DUE.same("state: line " + what, x.line(what), -3);
        DUE.same("state: drawn(0)", x.drawn(0), -3);
        DUE.same("state: drawn(1)", x.drawn(1), -3);
        DUE.same("state: done", x.done(), -3);
        DUE.same("the pad stays", x.told(0), 3);
        outsideFirst(x);
        x.wipe();
        Due.say(x, "A<1K");
        DUE.same("no before state: judge", x.judge(2), -5);
        DUE.same("no before state: behind", x.behind(0, 0), -5);
        DUE.same("no before state: done", x.done(), -5);
        x.wipe();
        outsideFirst(x);
    }

    private static void outsideFirst(MittenLine x) {
        DUE.same("judge(3)", x.judge(3), -2);
        DUE.same("behind(-1, 0)", x.behind(-1, 0), -1);
        DUE.same("behind(10, 9)", x.behind(10, 9), -1);
        DUE.same("behind(0, -1)", x.behind(0, -1), -2);
        DUE.same("behind(0, 3)", x.behind(0, 3), -2);
        DUE.same("line(-1)", x.line(-1), -2);
        DUE.same("line(4)", x.line(4), -2);
        DUE.same("drawn(-1)", x.drawn(-1), -2);
        DUE.same("drawn(2)", x.drawn(2), -2);
    }

    private static void drawn() {
        MittenLine x = Due.told("A#A>");
        x.wipe();
        Due.say(x, "A#F>4.F>2E>9E<9");
        DUE.same("drawn(0)", x.drawn(0), 3);
        DUE.same("drawn(1): the least", x.drawn(1), 4);
        x.wipe();
        Due.say(x, "E>9E>9");
        DUE.same("drawn(0) at once", x.drawn(0), 0);
        DUE.same("drawn(1) by the first act", x.drawn(1), 3);
        x.wipe();
        Due.say(x, "E>1.B#");
        DUE.same("drawn(0) none", x.drawn(0), -6);
        DUE.same("drawn(1) none", x.drawn(1), -6);
        x.wipe();
        Due.say(x, "A<1");
        DUE.same("drawn(0) of what can not be", x.drawn(0), -3);
        MittenLine both = new MittenLine();
        both.child(4, 45, 0);
        both.string(4, 5);
        Due.say(both, "E>1E<9");
        DUE.same("the least of two sides", both.drawn(1), 3);
        MittenLine far = Due.told("J>6");
        DUE.same("drawn one far on", far.drawn(1), 8);
        MittenLine line = Due.told("A+F>6");
        DUE.same("line(0): taut ones", line.line(0), 16);
        DUE.same("told stays", line.told(15), 50);
    }

    private static void done() {
        MittenLine x = Due.told("A#B>4C!9D+.E!4");
        DUE.same("behind holds", x.behind(0, 2), 1);
        DUE.same("behind holds not", x.behind(1, 2), 0);
        DUE.same("done", x.done(), 6);
        DUE.same("the pad is empty", x.told(0), 0);
        DUE.same("holds", x.told(1), 1);
        DUE.same("yard", x.told(11), 14);
        DUE.same("felt", x.told(23), 1);
        DUE.same("felt 5", x.told(25), 1);
        DUE.same("felt 0", x.told(20), 0);
        DUE.same("ball", x.told(2), 19);
        DUE.same("string", x.told(33), 16);
        DUE.same("day", x.told(3), 1);
        DUE.same("done again", x.done(), 0);
        DUE.same("a day only once", x.told(3), 1);
        MittenLine full = new MittenLine();
        for (int i = 0; i < 20; i++) Due.say(full, "B!1");
        DUE.same("a full pad done", full.done(), 20);
        DUE.same("say after done", full.say('.'), 1);
    }

    private static void reach() {
        MittenLine x = new MittenLine();
        DUE.same("reach(-1, 0)", x.reach(-1, 0), -1);
        DUE.same("reach(10, 5)", x.reach(10, 5), -1);
        DUE.same("reach(0, -1)", x.reach(0, -1), -2);
        DUE.same("reach(0, 2)", x.reach(0, 2), -2);
        for (int i = 0; i < 10; i++) {
            DUE.same("reach on " + i, x.reach(i, 0), 999 - 10 * i);
            DUE.same("reach back " + i, x.reach(i, 1), 10 * i);
        }
        x.child(5, 50, 1);
        DUE.same("it holds, on", x.reach(5, 0), 0);
        DUE.same("it holds, back", x.reach(5, 1), 0);
        DUE.same("from 4 on", x.reach(4, 0), 25);
        DUE.same("from 4 back", x.reach(4, 1), 5);
        DUE.same("from 6 on", x.reach(6, 0), 5);
        DUE.same("from 6 back", x.reach(6, 1), 25);
        DUE.same("from 3 on", x.reach(3, 0), 50);
        DUE.same("from 3 back", x.reach(3, 1), 10);
        DUE.same("from 0 on", x.reach(0, 0), 125);
        DUE.same("from 0 back", x.reach(0, 1), 0);
        x.child(2, 20, 1);
        DUE.same("two hold: from 4 on", x.reach(4, 0), 10);
        DUE.same("two hold: from 4 back", x.reach(4, 1), 5);
        DUE.same("two hold: from 3 on", x.reach(3, 0), 5);
        Due.say(x, "F#C#");
        DUE.same("as things are now", x.reach(4, 0), 10);
        Due.say(x, "K");
        DUE.same("a fault is all one", x.reach(4, 0), 10);
    }
}
