/** Promises 1 to 7 and 25: a new object, child, string, ball, say, wipe, fault, told. */
public final class ChildrenTest {
    private static final Due DUE = new Due("children");

    public static void main(String[] args) {
        aNewObject();
        child();
        childAndStrings();
        string();
        ball();
        sayAndWipe();
        fault();
        faultOfEachSign();
        told();
        refusedChangeNothing();
        DUE.end();
    }

    private static void aNewObject() {
        MittenLine x = new MittenLine();
        for (int i = 0; i < 10; i++) {
            DUE.same("new told yard " + i, x.told(10 + i), 10 * i);
            DUE.same("new told felt " + i, x.told(20 + i), 0);
        }
        for (int i = 0; i < 9; i++) DUE.same("new told string " + i, x.told(30 + i), 15);
        DUE.same("new signs", x.told(0), 0);
        DUE.same("new holds", x.told(1), 0);
        DUE.same("new ball", x.told(2), 20);
        DUE.same("new day", x.told(3), 0);
        DUE.same("new sights", x.told(4), 0);
        DUE.same("new fault", x.fault(), -6);
        DUE.same("new restore 0", x.restore(0), -3);
        DUE.same("new restore 1", x.restore(1), -3);
        DUE.same("new forget", x.forget(), 0);
        DUE.same("new wipe", x.wipe(), 0);
        MittenLine other = new MittenLine();
        x.child(3, 33, 1);
        x.string(4, 20);
        x.ball(7);
        DUE.same("another object keeps its child", other.told(13), 30);
        DUE.same("another object keeps its string", other.told(34), 15);
        DUE.same("another object keeps its ball", other.told(2), 20);
    }

    private static void child() {
        MittenLine x = new MittenLine();
        DUE.same("child(-1, 0, 0)", x.child(-1, 0, 0), -1);
        DUE.same("child(10, 0, 0)", x.child(10, 0, 0), -1);
        DUE.same("child(10, -1, 5): the child first", x.child(10, -1, 5), -1);
        DUE.same("child(0, -1, 0)", x.child(0, -1, 0), -2);
        DUE.same("child(9, 1000, 0): outside first", x.child(9, 1000, 0), -2);
        DUE.same("child(9, 999, 2): outside first", x.child(9, 999, 2), -2);
        DUE.same("child(0, 0, -1)", x.child(0, 0, -1), -2);
        DUE.same("child(0, 5, 1)", x.child(0, 5, 1), 0);
        DUE.same("holds 0", x.told(1), 1);
        DUE.same("child(9, 95, 1)", x.child(9, 95, 1), 90);
        DUE.same("holds 0, 9", x.told(1), 513);
        DUE.same("child(9, 95, 1) again", x.child(9, 95, 1), 95);
        DUE.same("holds 0, 9 still", x.told(1), 513);
        DUE.same("child(0, 3, 0): one that holds can be put", x.child(0, 3, 0), 5);
        DUE.same("holds 9", x.told(1), 512);
        DUE.same("yard of 0", x.told(10), 3);
        Due.does(x, "A!5");
        int before = x.told(21);
        x.child(1, 12, 0);
        DUE.same("what it felt stays", x.told(21), before);
    }

    private static void childAndStrings() {
        MittenLine x = new MittenLine();
        DUE.same("child(5, 35, 0): as far as may be", x.child(5, 45, 0), 50);
        DUE.same("child(5, 44, 0): the string on is too short", x.child(5, 44, 0), -3);
        DUE.same("child(5, 55, 0)", x.child(5, 55, 0), 45);
        DUE.same("child(5, 56, 0): the string back is too short", x.child(5, 56, 0), -3);
        DUE.same("nothing is changed", x.told(15), 55);
        DUE.same("child(0, 26, 1)", x.child(0, 26, 1), -3);
        DUE.same("nor does it hold", x.told(1), 0);
        DUE.same("child(0, 25, 1): ahead of the next one", x.child(0, 25, 1), 0);
        DUE.same("child(9, 64, 0)", x.child(9, 64, 0), -3);
        DUE.same("child(9, 65, 0)", x.child(9, 65, 0), 90);
        x.string(8, 99);
        DUE.same("child(9, 180, 0)", x.child(9, 180, 0), -3);
        DUE.same("child(9, 179, 0)", x.child(9, 179, 0), 65);
    }

    private static void string() {
        MittenLine x = new MittenLine();
        DUE.same("string(-1, 5)", x.string(-1, 5), -1);
        DUE.same("string(9, 5)", x.string(9, 5), -1);
        DUE.same("string(9, 0): the string first", x.string(9, 0), -1);
        DUE.same("string(0, 0)", x.string(0, 0), -2);
        DUE.same("string(0, 100)", x.string(0, 100), -2);
        DUE.same("string(0, -3)", x.string(0, -3), -2);
        DUE.same("string(0, 9)", x.string(0, 9), -3);
        DUE.same("told 30", x.told(30), 15);
        DUE.same("string(0, 10)", x.string(0, 10), 15);
        DUE.same("string(0, 99)", x.string(0, 99), 10);
        DUE.same("string(8, 11)", x.string(8, 11), 15);
        DUE.same("told 38", x.told(38), 11);
        x.child(0, 10, 0);
        DUE.same("string(0, 1): both at one yard", x.string(0, 1), 99);
        DUE.same("the ball stays", x.told(2), 20);
        DUE.same("string back", x.string(0, 20), 1);
        x.child(0, 25, 0);
        DUE.same("string(0, 14): the first one ahead", x.string(0, 14), -3);
        DUE.same("string(0, 15)", x.string(0, 15), 20);
    }

    private static void ball() {
        MittenLine x = new MittenLine();
        DUE.same("ball(-1)", x.ball(-1), -2);
        DUE.same("ball(1000)", x.ball(1000), -2);
        DUE.same("ball(0)", x.ball(0), 20);
        DUE.same("ball(999)", x.ball(999), 0);
        DUE.same("told ball", x.told(2), 999);
    }

    private static void sayAndWipe() {
        MittenLine x = new MittenLine();
        DUE.same("say(32)", x.say(32), -2);
        DUE.same("say(127)", x.say(127), -2);
        DUE.same("say(-60)", x.say(-60), -2);
        DUE.same("say(33)", x.say(33), 1);
        DUE.same("say(126)", x.say(126), 2);
        DUE.same("wipe()", x.wipe(), 2);
        DUE.same("wipe() again", x.wipe(), 0);
        for (int i = 1; i <= 60; i++) DUE.same("sign " + i, x.say('.'), i);
        DUE.same("sign 61", x.say('.'), -4);
        DUE.same("sign 61, outside first", x.say(127), -2);
        DUE.same("signs", x.told(0), 60);
        DUE.same("a full pad has no fault", x.fault(), -6);
        DUE.same("wipe a full pad", x.wipe(), 60);
        DUE.same("say after it", x.say('A'), 1);
    }

    private static void fault() {
        DUE.same("fault of none", Due.told("").fault(), -6);
        DUE.same("fault A", Due.told("A").fault(), 1);
        DUE.same("fault A>", Due.told("A>").fault(), 2);
        DUE.same("fault A!", Due.told("A!").fault(), 2);
        DUE.same("fault A>1", Due.told("A>1").fault(), -6);
        DUE.same("fault A>0", Due.told("A>0").fault(), 2);
        DUE.same("fault A<9J", Due.told("A<9J").fault(), 4);
        DUE.same("fault A#B+C-D!1.E<9F>1", Due.told("A#B+C-D!1.E<9F>1").fault(), -6);
        DUE.same("fault J+ is none", Due.told("J+").fault(), -6);
        DUE.same("fault A#5", Due.told("A#5").fault(), 2);
        DUE.same("fault A.", Due.told("A.").fault(), 1);
        DUE.same("fault ..K", Due.told("..K").fault(), 2);
        DUE.same("fault a#", Due.told("a#").fault(), 0);
        DUE.same("fault AA#", Due.told("AA#").fault(), 1);
        DUE.same("fault A>>1", Due.told("A>>1").fault(), 2);
        DUE.same("the first fault", Due.told("A>A0K").fault(), 2);
        MittenLine x = new MittenLine();
        for (int i = 0; i < 59; i++) x.say('.');
        x.say('A');
        DUE.same("fault at the end of a full pad", x.fault(), 60);
        DUE.same("fault changes nothing", x.fault(), 60);
    }

    private static void faultOfEachSign() {
        for (int sign = 33; sign <= 126; sign++) {
            String s = String.valueOf((char) sign);
            boolean letter = sign >= 'A' && sign <= 'J';
            DUE.same("fault " + s, Due.told(s).fault(), letter ? 1 : sign == '.' ? -6 : 0);
            boolean asks = "><!".contains(s);
            boolean ends = "#+-".contains(s);
            DUE.same("fault B" + s, Due.told("B" + s).fault(), asks ? 2 : ends ? -6 : 1);
            boolean digit = sign >= '1' && sign <= '9';
            DUE.same("fault J!" + s, Due.told("J!" + s).fault(), digit ? -6 : 2);
            DUE.same("fault J<" + s, Due.told("J<" + s).fault(), digit ? -6 : 2);
            DUE.same("fault J>" + s, Due.told("J>" + s).fault(), digit ? -6 : 2);
        }
    }

    private static void told() {
        MittenLine x = new MittenLine();
        int[] outside = {-1, 5, 9, 39, 40, 100, Integer.MIN_VALUE, Integer.MAX_VALUE};
        for (int what : outside) DUE.same("told(" + what + ")", x.told(what), -2);
        x.child(2, 22, 1);
        x.child(7, 75, 1);
        Due.does(x, "E!9..A!4");
        Due.say(x, "A#B");
        x.felt(1, 1);
        x.felt(1, 1);
        x.string(6, 44);
        DUE.same("signs", x.told(0), 3);
        DUE.same("holds", x.told(1), 132);
        DUE.same("ball", x.told(2), 20);
        DUE.same("day", x.told(3), 2);
        DUE.same("sights", x.told(4), 2);
        DUE.same("yard 2", x.told(12), 22);
        DUE.same("yard 7", x.told(17), 75);
        DUE.same("felt 0", x.told(20), 0);
        DUE.same("felt 1", x.told(21), 1);
        DUE.same("felt 2", x.told(22), 0);
        DUE.same("string 6", x.told(36), 44);
    }

    private static void refusedChangeNothing() {
        MittenLine x = new MittenLine();
        x.child(10, 1, 1);
        x.child(4, 70, 1);
        x.child(4, 40, 2);
        x.string(0, 5);
        x.string(0, 100);
        x.ball(-1);
        x.say(200);
        x.felt(11, 1);
        x.felt(1, 11);
        x.image(5);
        x.restore(0);
        DUE.same("yard 4", x.told(14), 40);
        DUE.same("holds", x.told(1), 0);
        DUE.same("string 0", x.told(30), 15);
        DUE.same("ball", x.told(2), 20);
        DUE.same("signs", x.told(0), 0);
        DUE.same("sights", x.told(4), 0);
    }
}
