/** The cases of promises 1 to 4: a new object, child, string, ball. */
final class ChildrenEdges extends Cases {
    private ChildrenEdges() { }

    // ---- 1 a new object

    @Says("CHILDREN 0 to 9 (A to J) are on one string")
    static void p01_new_CHILDREN_are_0_to_9() {
        MittenLine x = new MittenLine();
        same("child(-1, 0, 0)", x.child(-1, 0, 0), UNKNOWN);
        same("child(0, 0, 0)", x.child(0, 0, 0), 0);
        same("child(9, 90, 0)", x.child(9, 90, 0), 90);
        same("child(10, 90, 0)", x.child(10, 90, 0), UNKNOWN);
    }

    @Says("CHILDREN 0 to 9 (A to J) are on one string")
    static void p01_new_CHILDREN_are_A_to_J() {
        for (int i = 0; i < 10; i++) {
            MittenLine x = Due.told((char) ('A' + i) + "#");
            same("done()", x.done(), 1);
            same("told(1)", x.told(1), 1 << i);
        }
    }

    @Says("STRING 0 to 8 leads from the CHILD of its number to the next one")
    static void p01_new_STRINGS_lead_from_the_CHILD_of_their_number_to_the_next_one() {
        for (int i = 0; i < 9; i++) {
            MittenLine x = withString(i, 10);
            same("line(0), string " + i, x.line(0), 1 << i);
            same("the one behind it goes on", x.child(i + 1, 10 * i + 11, 0), STATE);
            same("the one ahead of it comes nearer", x.child(i, 10 * i + 1, 0), 10 * i);
            same("now the one behind it goes on", x.child(i + 1, 10 * i + 11, 0), 10 * i + 10);
        }
    }

    @Says("is 1 to 99 yards long (15 at first)")
    static void p01_new_STRINGS_are_15_long() {
        MittenLine x = new MittenLine();
        for (int i = 0; i < 9; i++) toldString(x, i, 15);
        same("line(2)", x.line(2), 135);
    }

    @Says("Each CHILD is at a YARD 0 to 999 (10 times its number, at first)")
    static void p01_new_YARDS_are_10_times_the_number() {
        MittenLine x = new MittenLine();
        for (int i = 0; i < 10; i++) toldYard(x, i, 10 * i);
    }

    @Says("HOLDS fast or does not (not, at first)")
    static void p01_new_none_HOLDS() {
        MittenLine x = new MittenLine();
        same("told(1)", x.told(1), 0);
        for (int i = 0; i < 10; i++) same("behind(" + i + ", 2)", x.behind(i, 2), 0);
    }

    @Says("has FELT 0 to 99 (0 at first)")
    static void p01_new_all_have_FELT_0() {
        MittenLine x = new MittenLine();
        for (int i = 0; i < 10; i++) toldFelt(x, i, 0);
    }

    @Says("The BALL has 0 to 999 yards of wool (20 at first)")
    static void p01_new_BALL_has_20() {
        same("told(2)", new MittenLine().told(2), 20);
    }

    @Says("It is day 0 at first")
    static void p01_new_day_is_0() {
        same("told(3)", new MittenLine().told(3), 0);
    }

    @Says("an empty PAD has no FAULT: no ACTS")
    static void p01_new_PAD_is_empty() {
        MittenLine x = new MittenLine();
        same("told(0)", x.told(0), 0);
        same("fault()", x.fault(), NONE);
        same("done()", x.done(), 0);
        same("wipe()", x.wipe(), 0);
    }

    @Says("Ten on their string")
    static void p01_new_no_SIGHTS_and_no_IMAGE() {
        MittenLine x = new MittenLine();
        same("told(4)", x.told(4), 0);
        same("forget()", x.forget(), 0);
        same("restore(0)", x.restore(0), STATE);
        same("restore(1)", x.restore(1), STATE);
    }

    @Says("Ten on their string")
    static void p01_new_object_is_new_whatever_was_done_with_another() {
        MittenLine before = new MittenLine();
        busy();
        MittenLine after = new MittenLine();
        toldYard(before, 3, 30);
        toldYard(after, 3, 30);
        same("told(1)", after.told(1), 0);
        same("told(3)", after.told(3), 0);
        same("restore(0)", after.restore(0), STATE);
        sameFromNowOn(before, after);
    }

    @Says("UNKNOWN = -1, OUTSIDE = -2, STATE = -3, FULL = -4, NO = -5, NONE = -6")
    static void p01_new_constants_are_as_told() {
        same("UNKNOWN", MittenLine.UNKNOWN, UNKNOWN);
        same("OUTSIDE", MittenLine.OUTSIDE, OUTSIDE);
        same("STATE", MittenLine.STATE, STATE);
        same("FULL", MittenLine.FULL, FULL);
        same("NO", MittenLine.NO, NO);
        same("NONE", MittenLine.NONE, NONE);
        same("GONE", MittenLine.GONE, -1000000000000000000L);
    }

    // ---- 2 child

    @Says("UNKNOWN -1 (there is no such CHILD, STRING)")
    static void p02_child_UNKNOWN_child_below_0() {
        refuses(x -> x.child(-1, 3, 1), UNKNOWN);
    }

    @Says("UNKNOWN -1 (there is no such CHILD, STRING)")
    static void p02_child_UNKNOWN_child_10() {
        refuses(x -> x.child(10, 92, 0), UNKNOWN);
    }

    @Says("UNKNOWN -1 (there is no such CHILD, STRING)")
    static void p02_child_UNKNOWN_child_far_out() {
        refuses(x -> x.child(LEAST, 3, 1), UNKNOWN);
        refuses(x -> x.child(MOST, 92, 0), UNKNOWN);
    }

    @Says("OUTSIDE -2 (another number is not as told)")
    static void p02_child_OUTSIDE_yard_below_0() {
        refuses(x -> x.child(0, -1, 1), OUTSIDE);
    }

    @Says("OUTSIDE -2 (another number is not as told)")
    static void p02_child_OUTSIDE_yard_1000() {
        refuses(() -> allAt(999), x -> x.child(9, 1000, 1), OUTSIDE);
    }

    @Says("OUTSIDE -2 (another number is not as told)")
    static void p02_child_OUTSIDE_yard_far_out() {
        refuses(x -> x.child(4, LEAST, 1), OUTSIDE);
        refuses(x -> x.child(4, MOST, 1), OUTSIDE);
    }

    @Says("whether it HOLDS fast (1, 0)")
    static void p02_child_OUTSIDE_holds_below_0() {
        refuses(x -> x.child(4, 41, -1), OUTSIDE);
    }

    @Says("whether it HOLDS fast (1, 0)")
    static void p02_child_OUTSIDE_holds_2() {
        refuses(x -> x.child(4, 41, 2), OUTSIDE);
        refuses(x -> x.child(3, 35, 2), OUTSIDE);
    }

    @Says("the first of these that fits")
    static void p02_child_UNKNOWN_ahead_of_OUTSIDE() {
        refuses(x -> x.child(10, 1000, 2), UNKNOWN);
        refuses(x -> x.child(-1, -1, -1), UNKNOWN);
    }

    @Says("the first of these that fits")
    static void p02_child_OUTSIDE_ahead_of_STATE() {
        refuses(x -> x.child(4, 1000, 0), OUTSIDE);
        refuses(x -> x.child(4, 90, 2), OUTSIDE);
    }

    @Says("Each CHILD is at a YARD 0 to 999")
    static void p02_child_yard_0_can_be() {
        MittenLine x = new MittenLine();
        same("child(0, 1, 0)", x.child(0, 1, 0), 0);
        same("child(0, 0, 0)", x.child(0, 0, 0), 1);
        toldYard(x, 0, 0);
    }

    @Says("Each CHILD is at a YARD 0 to 999")
    static void p02_child_yard_999_can_be() {
        MittenLine x = allAt(998);
        same("child(9, 999, 0)", x.child(9, 999, 0), 998);
        toldYard(x, 9, 999);
        same("child(0, 999, 0)", x.child(0, 999, 0), 998);
        toldYard(x, 0, 999);
    }

    @Says("Two on a STRING are no more YARDS apart than it is long")
    static void p02_child_STATE_STRING_to_the_next_one_too_short() {
        refuses(MittenLine::new, x -> x.child(4, 34, 1), STATE);
    }

    @Says("Two on a STRING are no more YARDS apart than it is long")
    static void p02_child_STATE_STRING_to_the_next_one_too_short_beyond_it() {
        refuses(() -> withString(3, 99), x -> x.child(4, 66, 1), STATE);
    }

    @Says("Two on a STRING are no more YARDS apart than it is long")
    static void p02_child_STATE_STRING_from_the_one_before_too_short() {
        refuses(MittenLine::new, x -> x.child(5, 56, 1), STATE);
    }

    @Says("Two on a STRING are no more YARDS apart than it is long")
    static void p02_child_STATE_STRING_from_the_one_before_too_short_beyond_it() {
        refuses(() -> withString(5, 99), x -> x.child(5, 24, 1), STATE);
    }

    @Says("STATE: a STRING is too short")
    static void p02_child_STATE_the_first_and_the_last_one() {
        refuses(MittenLine::new, x -> x.child(0, 26, 1), STATE);
        refuses(MittenLine::new, x -> x.child(9, 96, 1), STATE);
        refuses(MittenLine::new, x -> x.child(9, 64, 1), STATE);
    }

    @Says("Two on a STRING are no more YARDS apart than it is long")
    static void p02_child_as_far_as_the_STRING_is_long_can_be() {
        same("from the next one", new MittenLine().child(4, 35, 0), 40);
        same("beyond the next one", withString(3, 99).child(4, 65, 0), 40);
        same("from the one before", new MittenLine().child(5, 55, 0), 50);
        same("beyond the one before", withString(5, 99).child(5, 25, 0), 50);
        same("the first one", new MittenLine().child(0, 25, 0), 0);
        same("the last one", new MittenLine().child(9, 95, 0), 90);
        same("the last one, back", new MittenLine().child(9, 65, 0), 90);
    }

    @Says("STRING 0 to 8 leads from the CHILD of its number to the next one")
    static void p02_child_the_first_and_the_last_one_have_one_STRING_alone() {
        MittenLine x = withString(0, 99);
        same("child(0, 99, 0)", x.child(0, 99, 0), 0);
        same("child(0, 109, 0)", x.child(0, 109, 0), 99);
        same("child(0, 110, 0)", x.child(0, 110, 0), STATE);
        MittenLine y = withString(8, 99);
        same("child(9, 179, 0)", y.child(9, 179, 0), 90);
        same("child(9, 0, 0)", y.child(9, 0, 0), 179);
    }

    @Says("Where a CHILD is, whether it HOLDS fast (1, 0): where it was")
    static void p02_child_tells_where_it_was() {
        MittenLine x = new MittenLine();
        same("child(5, 52, 0)", x.child(5, 52, 0), 50);
        same("child(5, 47, 0)", x.child(5, 47, 0), 52);
        same("child(5, 47, 0) again", x.child(5, 47, 0), 47);
        toldYard(x, 5, 47);
    }

    @Says("Where a CHILD is, whether it HOLDS fast (1, 0): where it was")
    static void p02_child_HOLDS_as_told_not_the_other_way_about() {
        MittenLine x = new MittenLine();
        x.child(0, 0, 1);
        x.child(9, 90, 1);
        same("0 and 9 hold", x.told(1), 513);
        x.child(9, 90, 1);
        same("9 holds still", x.told(1), 513);
        x.child(0, 0, 0);
        same("0 no more", x.told(1), 512);
        x.child(0, 0, 0);
        same("0 no more still", x.told(1), 512);
    }

    @Says("Where a CHILD is, whether it HOLDS fast (1, 0): where it was")
    static void p02_child_one_that_HOLDS_can_be_put() {
        MittenLine x = holding(1 << 4);
        same("child(4, 43, 1)", x.child(4, 43, 1), 40);
        toldYard(x, 4, 43);
        same("told(1)", x.told(1), 16);
    }

    @Says("Where a CHILD is, whether it HOLDS fast (1, 0): where it was")
    static void p02_child_changes_nothing_else() {
        MittenLine x = busy();
        MittenLine twin = busy();
        x.child(4, 42, 1);
        for (int what = 0; what < 39; what++) {
            if (what == 1 || what == 14) continue;
            same("told(" + what + ")", x.told(what), twin.told(what));
        }
        same("told(1)", x.told(1), twin.told(1) + 16);
        toldYard(x, 4, 42);
    }

    // ---- 3 string

    @Says("UNKNOWN -1 (there is no such CHILD, STRING)")
    static void p03_string_UNKNOWN_string_below_0() {
        refuses(x -> x.string(-1, 50), UNKNOWN);
    }

    @Says("UNKNOWN -1 (there is no such CHILD, STRING)")
    static void p03_string_UNKNOWN_string_9() {
        refuses(x -> x.string(9, 50), UNKNOWN);
    }

    @Says("UNKNOWN -1 (there is no such CHILD, STRING)")
    static void p03_string_UNKNOWN_string_far_out() {
        refuses(x -> x.string(LEAST, 50), UNKNOWN);
        refuses(x -> x.string(MOST, 50), UNKNOWN);
    }

    @Says("is 1 to 99 yards long")
    static void p03_string_OUTSIDE_0_yards() {
        refuses(() -> firstTwoTogether(5), x -> x.string(0, 0), OUTSIDE);
    }

    @Says("is 1 to 99 yards long")
    static void p03_string_OUTSIDE_100_yards() {
        refuses(x -> x.string(4, 100), OUTSIDE);
    }

    @Says("is 1 to 99 yards long")
    static void p03_string_OUTSIDE_yards_far_out() {
        refuses(x -> x.string(4, -1), OUTSIDE);
        refuses(x -> x.string(4, LEAST), OUTSIDE);
        refuses(x -> x.string(4, MOST), OUTSIDE);
    }

    @Says("the first of these that fits")
    static void p03_string_UNKNOWN_ahead_of_OUTSIDE() {
        refuses(x -> x.string(9, 0), UNKNOWN);
        refuses(x -> x.string(-1, 100), UNKNOWN);
    }

    @Says("the first of these that fits")
    static void p03_string_OUTSIDE_ahead_of_STATE() {
        refuses(x -> x.string(4, 0), OUTSIDE);
    }

    @Says("STATE: too short")
    static void p03_string_STATE_too_short_by_a_yard() {
        refuses(MittenLine::new, x -> x.string(0, 9), STATE);
        refuses(MittenLine::new, x -> x.string(8, 9), STATE);
    }

    @Says("STATE: too short")
    static void p03_string_STATE_too_short_the_next_one_being_back() {
        MittenLine x = new MittenLine();
        same("child(0, 25, 0)", x.child(0, 25, 0), 0);
        same("string(0, 14)", x.string(0, 14), STATE);
        toldString(x, 0, 15);
        same("string(0, 20)", x.string(0, 20), 15);
        same("string(0, 15)", x.string(0, 15), 20);
    }

    @Says("Two on a STRING are no more YARDS apart than it is long")
    static void p03_string_as_long_as_the_two_are_apart_can_be() {
        MittenLine x = new MittenLine();
        same("string(0, 10)", x.string(0, 10), 15);
        same("string(8, 10)", x.string(8, 10), 15);
        same("line(0)", x.line(0), 257);
    }

    @Says("is 1 to 99 yards long")
    static void p03_string_1_yard_can_be() {
        MittenLine x = firstTwoTogether(2);
        same("string(0, 1)", x.string(0, 1), 2);
        toldString(x, 0, 1);
    }

    @Says("is 1 to 99 yards long")
    static void p03_string_99_yards_can_be() {
        MittenLine x = new MittenLine();
        same("string(0, 99)", x.string(0, 99), 15);
        same("string(8, 99)", x.string(8, 99), 15);
        toldString(x, 0, 99);
        toldString(x, 8, 99);
    }

    @Says("How long a STRING is: how long it was")
    static void p03_string_tells_how_long_it_was() {
        MittenLine x = new MittenLine();
        same("string(3, 44)", x.string(3, 44), 15);
        same("string(3, 12)", x.string(3, 12), 44);
        same("string(3, 12) again", x.string(3, 12), 12);
        toldString(x, 3, 12);
    }

    @Says("How long a STRING is: how long it was")
    static void p03_string_changes_nothing_else() {
        MittenLine x = busy();
        MittenLine twin = busy();
        x.string(4, 31);
        for (int what = 0; what < 39; what++) if (what != 34) same("told(" + what + ")", x.told(what), twin.told(what));
        toldString(x, 4, 31);
    }

    // ---- 4 ball

    @Says("The BALL has 0 to 999 yards of wool")
    static void p04_ball_OUTSIDE_below_0() {
        refuses(x -> x.ball(-1), OUTSIDE);
        refuses(x -> x.ball(LEAST), OUTSIDE);
    }

    @Says("The BALL has 0 to 999 yards of wool")
    static void p04_ball_OUTSIDE_1000() {
        refuses(x -> x.ball(1000), OUTSIDE);
        refuses(x -> x.ball(MOST), OUTSIDE);
    }

    @Says("The BALL has 0 to 999 yards of wool")
    static void p04_ball_0_can_be() {
        MittenLine x = new MittenLine();
        same("ball(0)", x.ball(0), 20);
        same("told(2)", x.told(2), 0);
    }

    @Says("The BALL has 0 to 999 yards of wool")
    static void p04_ball_999_can_be() {
        MittenLine x = new MittenLine();
        same("ball(999)", x.ball(999), 20);
        same("told(2)", x.told(2), 999);
    }

    @Says("What is on the BALL: how much there was")
    static void p04_ball_tells_how_much_there_was() {
        MittenLine x = new MittenLine();
        same("ball(31)", x.ball(31), 20);
        same("ball(8)", x.ball(8), 31);
        same("ball(8) again", x.ball(8), 8);
    }

    @Says("What is on the BALL: how much there was")
    static void p04_ball_changes_nothing_else() {
        MittenLine x = busy();
        MittenLine twin = busy();
        x.ball(500);
        for (int what = 0; what < 39; what++) if (what != 2) same("told(" + what + ")", x.told(what), twin.told(what));
        same("told(2)", x.told(2), 500);
    }
}
