/** The cases of promises 16 to 19: felt, forget, fits, ask. */
final class SightsEdges extends Cases {
    private SightsEdges() { }

    /** A new object with sights: a child and what it has felt, two digits each. */
    private static MittenLine saw(int... sights) {
        MittenLine x = new MittenLine();
        for (int sight : sights) x.felt(sight / 10, sight % 10);
        return x;
    }

    private static void fitting(MittenLine x, int... codes) {
        same("fits(-1)", x.fits(-1), codes.length);
        for (int i = 0; i < codes.length; i++) same("fits(" + i + ")", x.fits(i), codes[i]);
        same("fits(" + codes.length + ")", x.fits(codes.length), NONE);
    }

    private static MittenLine busyAndNothingFits() {
        MittenLine x = busy();
        x.felt(4, 4);
        return x;
    }

    // ---- 16 felt

    @Says("UNKNOWN -1 (there is no such CHILD, STRING)")
    static void p16_felt_UNKNOWN_child_below_0() {
        refuses(x -> x.felt(-1, 3), UNKNOWN);
        refuses(x -> x.felt(LEAST, 3), UNKNOWN);
    }

    @Says("UNKNOWN -1 (there is no such CHILD, STRING)")
    static void p16_felt_UNKNOWN_child_10() {
        refuses(x -> x.felt(10, 3), UNKNOWN);
        refuses(x -> x.felt(MOST, 3), UNKNOWN);
    }

    @Says("a CHILD has FELT v (0 to 9)")
    static void p16_felt_OUTSIDE_v_below_0() {
        refuses(x -> x.felt(4, -1), OUTSIDE);
        refuses(x -> x.felt(4, LEAST), OUTSIDE);
    }

    @Says("a CHILD has FELT v (0 to 9)")
    static void p16_felt_OUTSIDE_v_10() {
        refuses(x -> x.felt(4, 10), OUTSIDE);
        refuses(x -> x.felt(4, MOST), OUTSIDE);
    }

    @Says("SIGHTS, 8 at most")
    static void p16_felt_FULL_the_9th_SIGHT() {
        refuses(Cases::busyWithFullSights, x -> x.felt(4, 3), FULL);
        refuses(Cases::busyWithFullSights, x -> x.felt(0, 9), FULL);
    }

    @Says("the first of these that fits")
    static void p16_felt_UNKNOWN_ahead_of_OUTSIDE() {
        refuses(x -> x.felt(10, 10), UNKNOWN);
        refuses(x -> x.felt(-1, -1), UNKNOWN);
    }

    @Says("the first of these that fits")
    static void p16_felt_UNKNOWN_and_OUTSIDE_ahead_of_FULL() {
        refuses(Cases::busyWithFullSights, x -> x.felt(10, 3), UNKNOWN);
        refuses(Cases::busyWithFullSights, x -> x.felt(4, 10), OUTSIDE);
    }

    @Says("SIGHTS, 8 at most")
    static void p16_felt_the_8th_SIGHT_can_be() {
        MittenLine x = new MittenLine();
        for (int i = 1; i <= 8; i++) same("sight " + i, x.felt(i, i == 8 ? 9 : 0), i);
        same("told(4)", x.told(4), 8);
        same("fits(-1), the 8th counts", x.fits(-1), 0);
    }

    @Says("A SIGHT more: how many")
    static void p16_felt_alike_SIGHTS_are_more_too() {
        MittenLine x = new MittenLine();
        same("the first", x.felt(4, 9), 1);
        same("alike", x.felt(4, 9), 2);
        same("told(4)", x.told(4), 2);
        fitting(x, 491, 492, 493);
    }

    @Says("a CHILD has FELT v (0 to 9)")
    static void p16_felt_v_0_and_9_and_children_0_and_9_can_be() {
        MittenLine x = new MittenLine();
        same("felt(0, 0)", x.felt(0, 0), 1);
        same("felt(9, 9)", x.felt(9, 9), 2);
        fitting(x, 991, 992, 993);
        same("felt(9, 0)", x.felt(9, 0), 3);
        same("felt(0, 9)", x.felt(0, 9), 4);
        fitting(x);
    }

    @Says("A SIGHT more: how many")
    static void p16_felt_changes_no_CHILD() {
        MittenLine x = busy();
        MittenLine twin = busy();
        same("felt(7, 9)", x.felt(7, 9), 3);
        for (int what = 0; what < 39; what++) if (what != 4) same("told(" + what + ")", x.told(what), twin.told(what));
    }

    // ---- 17 forget

    @Says("SIGHTS go: how many there were")
    static void p17_forget_no_SIGHTS() {
        MittenLine x = new MittenLine();
        same("forget()", x.forget(), 0);
        sameFromNowOn(x, new MittenLine());
    }

    @Says("SIGHTS go: how many there were")
    static void p17_forget_8_SIGHTS() {
        MittenLine x = busyWithFullSights();
        same("forget()", x.forget(), 8);
        same("told(4)", x.told(4), 0);
        same("forget() again", x.forget(), 0);
        same("fits(-1)", x.fits(-1), 270);
        same("felt(4, 9)", x.felt(4, 9), 1);
        fitting(x, 491, 492, 493);
    }

    @Says("SIGHTS go: how many there were")
    static void p17_forget_changes_nothing_else() {
        MittenLine x = busy();
        MittenLine twin = busy();
        same("forget()", x.forget(), 2);
        x.felt(4, 3);
        x.felt(5, 2);
        sameFromNowOn(x, twin);
    }

    // ---- 18 fits

    @Says("NONE (i below -1, too)")
    static void p18_fits_NONE_i_below_minus_1() {
        changesNothing(Cases::busy, x -> x.fits(-2));
        same("fits(-2)", busy().fits(-2), NONE);
        same("fits(least)", busy().fits(LEAST), NONE);
        same("fits(-2), no sights", new MittenLine().fits(-2), NONE);
    }

    @Says("FITS: how many (i = -1), the i-th; NONE")
    static void p18_fits_NONE_beyond_the_last() {
        same("fits(270)", new MittenLine().fits(270), NONE);
        same("fits(most)", new MittenLine().fits(MOST), NONE);
        same("fits(3) of three", saw(49).fits(3), NONE);
    }

    @Says("FITS: how many (i = -1), the i-th; NONE")
    static void p18_fits_NONE_if_nothing_fits() {
        fitting(saw(49, 48));
        answersAndChangesNothing(SightsEdges::busyAndNothingFits, x -> x.fits(0), NONE);
        answersAndChangesNothing(SightsEdges::busyAndNothingFits, x -> x.fits(-1), 0);
    }

    @Says("CHILD c (0 to 9) squeezed with d (1 to 9); by each STRING k (1 to 3) was lost")
    static void p18_fits_all_without_SIGHTS() {
        MittenLine x = new MittenLine();
        same("fits(-1)", x.fits(-1), 270);
        int place = 0;
        for (int c = 0; c <= 9; c++) {
            for (int d = 1; d <= 9; d++) {
                for (int k = 1; k <= 3; k++) same("fits(" + place + ")", x.fits(place++), 100 * c + 10 * d + k);
            }
        }
    }

    @Says("how many; the i-th (rising)")
    static void p18_fits_the_first_and_the_last() {
        same("fits(0)", new MittenLine().fits(0), 11);
        same("fits(269)", new MittenLine().fits(269), 993);
    }

    @Says("(itself: d)")
    static void p18_fits_who_squeezed_itself_has_FELT_d() {
        fitting(saw(9), 91, 92, 93);
        fitting(saw(99), 991, 992, 993);
        fitting(saw(9, 18), 91);
    }

    @Says("a CHILD has FELT d less k for each STRING between")
    static void p18_fits_d_less_k_for_each_STRING_between() {
        fitting(saw(49, 38, 27), 491);
        fitting(saw(49, 57, 65), 492);
        fitting(saw(49, 26));
        fitting(saw(49, 23, 63), 493);
        fitting(saw(9, 90), 91, 92, 93);
        fitting(saw(9, 81), 91);
    }

    @Says("0 at least")
    static void p18_fits_0_at_least() {
        fitting(saw(49, 60));
        fitting(saw(49, 10), 493);
        fitting(saw(49, 0), 493);
        fitting(saw(41, 30), 411, 412, 413, 521, 532, 543, 631, 652, 673, 741, 772, 851, 892, 961);
    }

    @Says("by which all SIGHTS are so")
    static void p18_fits_all_of_8_SIGHTS() {
        fitting(saw(49, 37, 57, 25, 65, 13, 73, 1), 492);
        fitting(saw(49, 37, 57, 25, 65, 13, 73, 2));
    }

    @Says("FITS: how many (i = -1), the i-th")
    static void p18_fits_changes_nothing() {
        changesNothing(Cases::busy, x -> x.fits(-1));
        changesNothing(Cases::busy, x -> x.fits(0));
    }

    // ---- 19 ask

    @Says("ASK: the CHILD (what = 0), how many (1); NONE: nothing fits. OUTSIDE")
    static void p19_ask_OUTSIDE_what_below_0() {
        refuses(x -> x.ask(-1), OUTSIDE);
        refuses(x -> x.ask(LEAST), OUTSIDE);
    }

    @Says("ASK: the CHILD (what = 0), how many (1); NONE: nothing fits. OUTSIDE")
    static void p19_ask_OUTSIDE_what_2() {
        refuses(x -> x.ask(2), OUTSIDE);
        refuses(x -> x.ask(MOST), OUTSIDE);
    }

    @Says("NONE: nothing fits")
    static void p19_ask_NONE_nothing_fits() {
        answersAndChangesNothing(SightsEdges::busyAndNothingFits, x -> x.ask(0), NONE);
        answersAndChangesNothing(SightsEdges::busyAndNothingFits, x -> x.ask(1), NONE);
    }

    @Says("the first of these that fits")
    static void p19_ask_OUTSIDE_though_nothing_fits() {
        refuses(SightsEdges::busyAndNothingFits, x -> x.ask(2), OUTSIDE);
        refuses(SightsEdges::busyAndNothingFits, x -> x.ask(-1), OUTSIDE);
    }

    @Says("fewest of these are left at the most: the least; how many")
    static void p19_ask_the_least_of_those_that_are_as_good() {
        // One is left, whoever is asked.
        same("one fits, ask(0)", saw(49, 38).ask(0), 0);
        same("one fits, ask(1)", saw(49, 38).ask(1), 1);
        // 091, 092, 093: told apart by 1 (8, 7, 6), 2 and 3, not by 0, and not by 9.
        same("three fit, ask(0)", saw(9).ask(0), 1);
        same("three fit, ask(1)", saw(9).ask(1), 1);
    }

    @Says("whatever it has FELT, fewest of these are left at the most")
    static void p19_ask_without_SIGHTS() {
        Model model = new Model();
        same("ask(0)", new MittenLine().ask(0), model.ask(0));
        same("ask(1)", new MittenLine().ask(1), model.ask(1));
    }

    @Says("whatever it has FELT, fewest of these are left at the most")
    static void p19_ask_all_are_left_whoever_is_asked() {
        // 011, 012, 013: all but 0 have felt nothing.
        fitting(saw(1, 10), 11, 12, 13);
        same("ask(0)", saw(1, 10).ask(0), 0);
        same("ask(1)", saw(1, 10).ask(1), 3);
    }

    @Says("whatever it has FELT, fewest of these are left at the most")
    static void p19_ask_one_after_another() {
        MittenLine x = saw(9, 18);
        for (int i = 0; i < 3; i++) {
            same("one fits, ask(0)", x.ask(0), 0);
            same("one fits, ask(1)", x.ask(1), 1);
        }
        x.forget();
        x.felt(0, 9);
        same("three fit, ask(0)", x.ask(0), 1);
        same("three fit, ask(1)", x.ask(1), 1);
    }

    @Says("ASK: the CHILD (what = 0), how many (1); NONE: nothing fits")
    static void p19_ask_changes_nothing() {
        changesNothing(Cases::busy, x -> x.ask(0));
        changesNothing(Cases::busy, x -> x.ask(1));
    }
}
