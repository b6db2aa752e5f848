/** Promises 23 and 24: image, restore. */
public final class ImageTest {
    private static final Due DUE = new Due("images");

    public static void main(String[] args) {
        refused();
        allButThePad();
        twoImages();
        keptApart();
        DUE.end();
    }

    private static void refused() {
        MittenLine x = new MittenLine();
        DUE.same("image(-1)", x.image(-1), -2);
        DUE.same("image(2)", x.image(2), -2);
        DUE.same("restore(-1)", x.restore(-1), -2);
        DUE.same("restore(2)", x.restore(2), -2);
        DUE.same("restore(0)", x.restore(0), -3);
        DUE.same("image(1)", x.image(1), 1);
        DUE.same("restore(0) still", x.restore(0), -3);
        DUE.same("restore(1)", x.restore(1), 1);
    }

    private static void allButThePad() {
        MittenLine x = new MittenLine();
        x.child(3, 33, 1);
        x.string(5, 55);
        x.ball(66);
        Due.does(x, "..E!7");
        x.felt(4, 7);
        x.felt(5, 4);
        Due.say(x, "A>1");
        int[] kept = new int[40];
        for (int what = 1; what < 40; what++) kept[what] = x.told(what);
        int fitting = x.fits(0);
        DUE.same("image(0)", x.image(0), 1);
        DUE.same("the pad stays at image", x.told(0), 3);
        x.forget();
        x.felt(0, 9);
        x.felt(0, 9);
        x.felt(0, 9);
        x.child(3, 30, 0);
        x.child(8, 81, 1);
        x.string(5, 12);
        x.ball(5);
        Due.does(x, "..J!9A!9F!9");
        Due.say(x, "B");
        DUE.same("restore(0)", x.restore(0), 1);
        for (int what = 1; what < 40; what++) DUE.same("told(" + what + ")", x.told(what), kept[what]);
        DUE.same("the sights are as they were", x.fits(0), fitting);
        DUE.same("the pad stays at restore", x.told(0), 1);
        DUE.same("its signs too", x.fault(), 1);
        x.ball(1);
        DUE.same("restore(0) once more", x.restore(0), 1);
        DUE.same("ball once more", x.told(2), 66);
    }

    private static void twoImages() {
        MittenLine x = new MittenLine();
        x.ball(1);
        x.image(0);
        x.ball(2);
        x.image(1);
        x.ball(3);
        DUE.same("restore(0)", x.restore(0), 1);
        DUE.same("ball of 0", x.told(2), 1);
        DUE.same("restore(1)", x.restore(1), 1);
        DUE.same("ball of 1", x.told(2), 2);
        x.image(0);
        x.ball(4);
        x.restore(0);
        DUE.same("an image is kept anew", x.told(2), 2);
    }

    private static void keptApart() {
        MittenLine x = new MittenLine();
        x.felt(1, 1);
        x.image(0);
        x.restore(0);
        x.child(2, 22, 1);
        x.string(2, 40);
        x.felt(2, 2);
        Due.does(x, "C!9");
        x.restore(0);
        DUE.same("yard", x.told(12), 20);
        DUE.same("holds", x.told(1), 0);
        DUE.same("string", x.told(32), 15);
        DUE.same("sights", x.told(4), 1);
        DUE.same("felt", x.told(23), 0);
        MittenLine other = new MittenLine();
        DUE.same("another object has none", other.restore(0), -3);
    }
}
