/** The cases of promises 23 to 25: image, restore, told. */
final class ImageEdges extends Cases {
    private ImageEdges() { }

    /** As busy, but the image of that number was never kept. */
    private static MittenLine keptOnly(int k) {
        MittenLine x = new MittenLine();
        x.child(4, 44, 1);
        x.string(2, 40);
        x.ball(44);
        x.felt(4, 4);
        Due.does(x, ".E!9");
        x.image(k);
        x.child(4, 45, 0);
        x.ball(45);
        return Due.say(x, "B#");
    }

    private static void allBut(String when, MittenLine x, MittenLine twin, int but) {
        for (int what = 0; what < 39; what++) {
            if (what != but) same(when + " told(" + what + ")", x.told(what), twin.told(what));
        }
    }

    // ---- 23 image

    @Says("All but the PAD is kept in an IMAGE (0, 1): 1. OUTSIDE")
    static void p23_image_OUTSIDE_k_below_0() {
        refuses(x -> x.image(-1), OUTSIDE);
        refuses(x -> x.image(LEAST), OUTSIDE);
    }

    @Says("All but the PAD is kept in an IMAGE (0, 1): 1. OUTSIDE")
    static void p23_image_OUTSIDE_k_2() {
        refuses(x -> x.image(2), OUTSIDE);
        refuses(x -> x.image(MOST), OUTSIDE);
        refuses(MittenLine::new, x -> x.image(2), OUTSIDE);
    }

    @Says("All but the PAD is kept in an IMAGE (0, 1): 1")
    static void p23_image_0_and_1_can_be() {
        same("image(0)", new MittenLine().image(0), 1);
        same("image(1)", new MittenLine().image(1), 1);
    }

    @Says("All but the PAD is kept in an IMAGE (0, 1): 1")
    static void p23_image_changes_nothing_now() {
        MittenLine x = busy();
        same("image(0)", x.image(0), 1);
        allBut("then", x, busy(), -1);
        same("fits(0)", x.fits(0), busy().fits(0));
        same("judge(0)", x.judge(0), NONE);
        same("done()", x.done(), 3);
    }

    @Says("All but the PAD is kept in an IMAGE (0, 1): 1")
    static void p23_image_all_is_kept_of_an_object_just_made() {
        MittenLine x = new MittenLine();
        x.image(1);
        x.child(0, 9, 1);
        x.string(0, 50);
        x.ball(1);
        x.felt(1, 1);
        Due.does(x, ".B!9");
        x.restore(1);
        alikeButImages(x, new MittenLine());
    }

    /** The two have kept other images, so restore is not asked. */
    private static void alikeButImages(MittenLine x, MittenLine twin) {
        allBut("then", x, twin, -1);
        same("line(0)", x.line(0), twin.line(0));
        same("fits(-1)", x.fits(-1), twin.fits(-1));
        same("fits(0)", x.fits(0), twin.fits(0));
        same("year(77, 99, 1)", x.year(77, 99, 1), twin.year(77, 99, 1));
    }

    @Says("All but the PAD is kept in an IMAGE (0, 1): 1")
    static void p23_image_is_kept_anew() {
        MittenLine x = busy();
        x.ball(500);
        x.forget();
        x.image(0);
        x.ball(600);
        x.felt(1, 1);
        same("restore(0)", x.restore(0), 1);
        same("told(2)", x.told(2), 500);
        same("told(4)", x.told(4), 0);
    }

    @Says("All but the PAD is kept in an IMAGE (0, 1): 1")
    static void p23_image_one_leaves_the_other_one() {
        MittenLine x = new MittenLine();
        x.ball(1);
        x.image(0);
        x.ball(2);
        x.image(1);
        x.ball(3);
        same("restore(0)", x.restore(0), 1);
        same("of 0", x.told(2), 1);
        same("restore(1)", x.restore(1), 1);
        same("of 1", x.told(2), 2);
    }

    @Says("All but the PAD is kept")
    static void p23_image_the_PAD_is_not_kept() {
        MittenLine x = Due.told("A>");
        x.image(0);
        x.wipe();
        Due.say(x, "B#.");
        same("restore(0)", x.restore(0), 1);
        same("told(0)", x.told(0), 3);
        same("fault()", x.fault(), NONE);
        same("done()", x.done(), 2);
        same("told(1)", x.told(1), 2);
    }

    // ---- 24 restore

    @Says("OUTSIDE -2 (another number is not as told)")
    static void p24_restore_OUTSIDE_k_below_0() {
        refuses(x -> x.restore(-1), OUTSIDE);
        refuses(x -> x.restore(LEAST), OUTSIDE);
    }

    @Says("OUTSIDE -2 (another number is not as told)")
    static void p24_restore_OUTSIDE_k_2() {
        refuses(x -> x.restore(2), OUTSIDE);
        refuses(x -> x.restore(MOST), OUTSIDE);
    }

    @Says("OUTSIDE; STATE: it was not")
    static void p24_restore_OUTSIDE_ahead_of_STATE() {
        refuses(MittenLine::new, x -> x.restore(2), OUTSIDE);
        refuses(MittenLine::new, x -> x.restore(-1), OUTSIDE);
    }

    @Says("STATE: it was not")
    static void p24_restore_STATE_none_was_kept() {
        refuses(() -> Due.told("A#"), x -> x.restore(0), STATE);
        refuses(() -> Due.told("A#"), x -> x.restore(1), STATE);
    }

    @Says("STATE: it was not")
    static void p24_restore_STATE_only_the_other_one_was_kept() {
        refuses(() -> keptOnly(1), x -> x.restore(0), STATE);
        refuses(() -> keptOnly(0), x -> x.restore(1), STATE);
    }

    @Says("It is as it was when it was kept: 1")
    static void p24_restore_all_is_as_it_was() {
        MittenLine x = busyWith("");
        x.image(0);
        x.child(0, 0, 1);
        x.child(3, 35, 0);
        x.string(1, 33);
        x.ball(0);
        x.forget();
        x.felt(9, 9);
        x.felt(9, 9);
        x.felt(9, 9);
        Due.does(x, "...E!9B-");
        same("restore(0)", x.restore(0), 1);
        MittenLine twin = busyWith("");
        twin.image(0);
        sameFromNowOn(x, twin);
    }

    @Says("It is as it was when it was kept: 1")
    static void p24_restore_leaves_the_PAD() {
        MittenLine x = busy();
        same("restore(1)", x.restore(1), 1);
        same("told(0)", x.told(0), 8);
        same("done()", x.done(), 3);
        toldYard(x, 2, 22);
        toldString(x, 0, 21);
    }

    @Says("It is as it was when it was kept: 1")
    static void p24_restore_again_and_again() {
        MittenLine x = keptOnly(0);
        for (int i = 0; i < 3; i++) {
            same("restore(0)", x.restore(0), 1);
            toldYard(x, 4, 44);
            same("told(1)", x.told(1), 16);
            same("told(2)", x.told(2), 44);
            same("told(4)", x.told(4), 1);
            toldFelt(x, 5, 6);
            x.child(4, 45, 0);
            x.string(4, 20);
            x.ball(7);
            x.felt(0, 0);
            Due.does(x, "A!9.J#");
        }
    }

    @Says("It is as it was when it was kept: 1")
    static void p24_restore_leaves_the_other_IMAGE() {
        MittenLine x = keptOnly(0);
        x.image(1);
        x.restore(0);
        same("told(2)", x.told(2), 44);
        x.restore(1);
        same("told(2)", x.told(2), 45);
        x.restore(0);
        same("told(2) again", x.told(2), 44);
    }

    // ---- 25 told

    @Says("0 signs, 1 who HOLD fast (bits), 2 the BALL, 3 the day, 4 SIGHTS")
    static void p25_told_OUTSIDE_below_0() {
        refuses(x -> x.told(-1), OUTSIDE);
        refuses(x -> x.told(LEAST), OUTSIDE);
    }

    @Says("0 signs, 1 who HOLD fast (bits), 2 the BALL, 3 the day, 4 SIGHTS; 10 and a CHILD: its YARD")
    static void p25_told_OUTSIDE_5_to_9() {
        for (int what = 5; what <= 9; what++) {
            int asked = what;
            refuses(x -> x.told(asked), OUTSIDE);
        }
    }

    @Says("30 and a STRING: how long. OUTSIDE")
    static void p25_told_OUTSIDE_39_and_beyond() {
        refuses(x -> x.told(39), OUTSIDE);
        refuses(x -> x.told(40), OUTSIDE);
        refuses(x -> x.told(MOST), OUTSIDE);
    }

    @Says("0 signs, 1 who HOLD fast (bits), 2 the BALL, 3 the day, 4 SIGHTS")
    static void p25_told_0_to_4() {
        MittenLine x = busy();
        same("told(0)", x.told(0), 8);
        same("told(1)", x.told(1), 1 << 3 | 1 << 7 | 1 << 9);
        same("told(2)", x.told(2), 77);
        same("told(3)", x.told(3), 4);
        same("told(4)", x.told(4), 2);
    }

    @Says("0 signs, 1 who HOLD fast (bits), 2 the BALL, 3 the day, 4 SIGHTS")
    static void p25_told_the_least_and_the_most() {
        same("no signs", new MittenLine().told(0), 0);
        same("60 signs", busyWithFullPad().told(0), 60);
        same("none holds", new MittenLine().told(1), 0);
        same("all hold", holding(1023).told(1), 1023);
        same("an empty ball", withBall(0).told(2), 0);
        same("a full ball", withBall(999).told(2), 999);
        same("day 99", atDay(99).told(3), 99);
        same("8 sights", busyWithFullSights().told(4), 8);
    }

    @Says("10 and a CHILD: its YARD")
    static void p25_told_10_to_19_YARDS() {
        int[] yards = {3, 12, 20, 36, 40, 47, 60, 75, 80, 91};
        MittenLine x = busy();
        for (int i = 0; i < 10; i++) same("told(" + (10 + i) + ")", x.told(10 + i), yards[i]);
    }

    @Says("20 and a CHILD: FELT")
    static void p25_told_20_to_29_FELT() {
        int[] felts = {0, 2, 5, 0, 7, 4, 1, 0, 0, 0};
        MittenLine x = withStrings(12);
        x.string(3, 10);
        Due.does(x, "D!8");
        for (int i = 0; i < 10; i++) same("D!8 told(" + (20 + i) + ")", x.told(20 + i), felts[i]);
        Due.does(x, ".A!9J!4");
        same("A!9 told(20)", x.told(20), 0);
        same("A!9 told(21)", x.told(21), 6);
        same("J!4 told(28)", x.told(28), 1);
        same("J!4 told(29)", x.told(29), 0);
    }

    @Says("30 and a STRING: how long")
    static void p25_told_30_to_38_STRINGS() {
        int[] lengths = {20, 15, 17, 15, 30, 15, 17, 15, 12};
        MittenLine x = busy();
        for (int i = 0; i < 9; i++) same("told(" + (30 + i) + ")", x.told(30 + i), lengths[i]);
    }

    @Says("0 signs, 1 who HOLD fast (bits), 2 the BALL, 3 the day, 4 SIGHTS")
    static void p25_told_as_things_are_now_not_behind_the_PAD() {
        MittenLine x = Due.told("A#B>4C!9D+.");
        allBut("then", x, new MittenLine(), 0);
        same("told(0)", x.told(0), 11);
    }

    @Says("An object is used for at most 512 calls after it has been made")
    static void p25_told_by_the_512th_call() {
        MittenLine x = new MittenLine();
        for (int i = 1; i <= 510; i++) x.ball(i);
        same("call 511: ball(0)", x.ball(0), 510);
        same("call 512: told(2)", x.told(2), 0);
        MittenLine y = new MittenLine();
        for (int i = 1; i <= 127; i++) {
            Due.say(y, "E!9");
            same("done()", y.done(), 1);
        }
        toldFelt(y, 5, 99);
        toldFelt(y, 3, 99);
        toldFelt(y, 4, 0);
    }

    @Says("Sets are bits")
    static void p25_told_1_bits_by_the_CHILDREN_numbers() {
        for (int i = 0; i < 10; i++) same("child " + i, holding(1 << i).told(1), 1 << i);
    }
}
